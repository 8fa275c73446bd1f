theorem sv21_0 {so dl ln : Nat → Nat} {th us lm mk ch tl cl fl na s lim n a f m φ : Nat} {σ μ : Sg} {Q : Sg → Prop} (h : Vx so dl ln th us lm mk ch tl cl fl na s lim n a f 21 0 m φ σ μ) (kk : ∀ σ' μ', MR μ μ' → Rr φ σ' μ' → Q σ') : TC σ Q := by
  obtain ⟨⟨hB, hbd, hRA, hs, hW⟩, hE, h24, hcl, hfl, hC, hφ, m45, m26, m36, hV, hX⟩ := h
  have hC0 := hC
  obtain ⟨c8, c9, c3, c4, c5⟩ := hC0
  rw [show n + 1 - 1 = n by omega] at c9
  have hbd0 := hbd
  obtain ⟨g1, g2, g3, g4, g5, g6, g7, g8, g9, g10, g11⟩ := hbd0
  obtain ⟨ha, hf, hk32, hcap, hm, h22, x21, h23, x23, hk, h26, x28, -, hst⟩ := id hE
  have h22 : sI σ 22 n = nI a := h22
  have h23 : sI σ 23 n = nI f := h23
  have h26 : sI σ 26 n = nI m := h26
  have ha60 : a < 60 := Nat.lt_of_lt_of_le ha hRA.2.2.1
  obtain ⟨k', hk', hk1, r0, r1, r2, r3, r4, r5, r6, r7, r8, r9, r10, r11⟩ := hRA.2.2.2 a ha
  have ek : 21 = k' := eqN (hk.symm.trans hk1) (by omega) (by omega)
  subst ek
  have e1 : sI σ 6 3 = nI us := hB.2.2.2.2.2.2.1.1
  have e5 : sI μ 0 44 = nI fl := hB.2.2.2.2.2.2.2.1.2.2.2.2.2.1
  have hn : n < 200 := by omega
  have hcn := cnt_le (P := isCl σ μ) n
  have et : sI μ 0 26 - (1 : Int32) = nI n := subN (n + 1) 1 m26 rfl (by omega)
  have hvn : vp_in (nI n) 220 := vp_in_nI (by omega) (by decide)
  have hva : vp_in (nI a) 60 := vp_in_nI ha60 (by decide)
  have en : (nI n).toNatClampNeg = n := nI_clamp (by omega)
  have ea : (nI a).toNatClampNeg = a := nI_clamp (by omega)
  have ht0 : ¬ sI μ 0 26 = 0 := neN (n + 1) 0 m26 rfl (by omega) (by omega) (by decide)
  have hcl : Cn cl ch s (17 * (n + 1) + 15) σ μ n := hcl.no (by decide)
  have hc1 : cl = cnt (isCl σ μ) n := hcl.1
  have hc2 := hcl.2
  have hbdn : Bd th us lm mk ch tl cl s lim n := ⟨by omega, by omega, by omega, by omega, by omega, g6, g7, g8, g9, g10, g11⟩
  have hbdg : ∀ t : Int32, Bd th us lm mk ch tl cl s lim n ∧ Xv t us mk cl s n := fun t => ⟨hbdn, Xv.mk g1 (by omega)⟩
  obtain ⟨h27, p22, d1, d2, d3⟩ : sI σ 27 n = 0 ∧ sI μ 22 n = nI 0 ∧ (1 ≤ 0 → kpX 21 = true → V so dl th (sL σ 25 (3 * n)) (sI μ 24 n) (sI μ 25 n)) ∧ (2 ≤ 0 → V so dl th (sL σ 25 (3 * n + 1)) (sI μ 26 n) (sI μ 27 n)) ∧ (21 = 28 → 1 ≤ 0 → ∃ q, q < th ∧ so q = 7 ∧ sL σ 25 (3 * n) = pk 7 (nI (dl q)) ∧ sI μ 25 n = nI q) := by
    rcases hst with h | h
    · exact h
    · exact absurd h.1 (by decide)
  refine sv_work (j := 1) c3 hRA c9 hn h22 ha r4 h24 (by omega) r0 hB (by omega) (fun lx ly _ _ Q' q => of_none (by simp) q) ?_
  refine wk_sel hRA.1 hRA.2.2.1 c9 hn h22 ha r0 ?_ (by omega)
  refine ⟨fun q => absurd q (by decide), fun q => absurd q (by decide), fun _ => ?_, fun q => absurd q (by decide), fun q => absurd q (by decide), fun q => absurd q (by decide), fun q => absurd q (by decide), fun q => absurd q (by decide), fun q => absurd q (by decide), fun q => absurd q (by decide)⟩
  refine c_stage c9 hn ?_
  rw [h24]
  refine c_value (w := 0) c9 hn (subN 1 1 rfl rfl (by omega)) (by omega) ?_
  refine fin_give (μ' := wI μ 0 26 (nI n)) hW hRA hs (hcl.w (by omega)) hfl hn hC hφ hB (hbdg _) Fc.rf Fm.rf.top (Nat.le_refl _) (fun _ _ => rfl) (fun _ _ => rfl) (Nat.le_refl _) m45 rfl m36 hV ?_ kk
  refine ms_up m36 ht0 (fun K q => m_up m26 (by omega) x21 ha60 x23 hk (by omega) p22 (by omega) (fun _ h => absurd h (by unfold isP2; omega)) (fun h _ => absurd h (by decide)) (fun _ _ => ?_))
  unfold wX11_upOf
  repeat refine gS (by decide) ?_
  intro _ _ _ _ _ _ _ _ _ _ _ _ _ _ _ _ _ _
  unfold wX11_upLater
  repeat refine gS (by decide) ?_
  intro _ _ _ _ _ _ _ _ _ _
  unfold wX11_upLater_332
  rw [et]
  exact q
theorem sv21_1 {so dl ln : Nat → Nat} {th us lm mk ch tl cl fl na s lim n a f m φ : Nat} {σ μ : Sg} {Q : Sg → Prop} (h : Vx so dl ln th us lm mk ch tl cl fl na s lim n a f 21 1 m φ σ μ) (kk : ∀ σ' μ', MR μ μ' → Rr φ σ' μ' → Q σ') : TC σ Q := by
  obtain ⟨⟨hB, hbd, hRA, hs, hW⟩, hE, h24, hcl, hfl, hC, hφ, m45, m26, m36, hV, hX⟩ := h
  have hC0 := hC
  obtain ⟨c8, c9, c3, c4, c5⟩ := hC0
  rw [show n + 1 - 1 = n by omega] at c9
  have hbd0 := hbd
  obtain ⟨g1, g2, g3, g4, g5, g6, g7, g8, g9, g10, g11⟩ := hbd0
  obtain ⟨ha, hf, hk32, hcap, hm, h22, x21, h23, x23, hk, h26, x28, -, hst⟩ := id hE
  have h22 : sI σ 22 n = nI a := h22
  have h23 : sI σ 23 n = nI f := h23
  have h26 : sI σ 26 n = nI m := h26
  have ha60 : a < 60 := Nat.lt_of_lt_of_le ha hRA.2.2.1
  obtain ⟨k', hk', hk1, r0, r1, r2, r3, r4, r5, r6, r7, r8, r9, r10, r11⟩ := hRA.2.2.2 a ha
  have ek : 21 = k' := eqN (hk.symm.trans hk1) (by omega) (by omega)
  subst ek
  have e1 : sI σ 6 3 = nI us := hB.2.2.2.2.2.2.1.1
  have e5 : sI μ 0 44 = nI fl := hB.2.2.2.2.2.2.2.1.2.2.2.2.2.1
  have hn : n < 200 := by omega
  have hcn := cnt_le (P := isCl σ μ) n
  have et : sI μ 0 26 - (1 : Int32) = nI n := subN (n + 1) 1 m26 rfl (by omega)
  have hvn : vp_in (nI n) 220 := vp_in_nI (by omega) (by decide)
  have hva : vp_in (nI a) 60 := vp_in_nI ha60 (by decide)
  have en : (nI n).toNatClampNeg = n := nI_clamp (by omega)
  have ea : (nI a).toNatClampNeg = a := nI_clamp (by omega)
  have ht0 : ¬ sI μ 0 26 = 0 := neN (n + 1) 0 m26 rfl (by omega) (by omega) (by decide)
  have hcl : Cn cl ch s (17 * (n + 1) + 15) σ μ n := hcl.no (by decide)
  have hc1 : cl = cnt (isCl σ μ) n := hcl.1
  have hc2 := hcl.2
  have hbdn : Bd th us lm mk ch tl cl s lim n := ⟨by omega, by omega, by omega, by omega, by omega, g6, g7, g8, g9, g10, g11⟩
  have hbdg : ∀ t : Int32, Bd th us lm mk ch tl cl s lim n ∧ Xv t us mk cl s n := fun t => ⟨hbdn, Xv.mk g1 (by omega)⟩
  obtain ⟨h27, p22, d1, d2, d3⟩ : sI σ 27 n = 0 ∧ sI μ 22 n = nI 1 ∧ (1 ≤ 1 → kpX 21 = true → V so dl th (sL σ 25 (3 * n)) (sI μ 24 n) (sI μ 25 n)) ∧ (2 ≤ 1 → V so dl th (sL σ 25 (3 * n + 1)) (sI μ 26 n) (sI μ 27 n)) ∧ (21 = 28 → 1 ≤ 1 → ∃ q, q < th ∧ so q = 7 ∧ sL σ 25 (3 * n) = pk 7 (nI (dl q)) ∧ sI μ 25 n = nI q) := by
    rcases hst with h | h
    · exact h
    · exact absurd h.1 (by decide)
  refine tc_after c3 hRA.1 hRA.2.2.1 c9 hn h22 ha r4 h24 (by omega) (by decide) ?_
  refine wk_sel hRA.1 hRA.2.2.1 c9 hn h22 ha r0 ?_ (by omega)
  refine ⟨fun q => absurd q (by decide), fun q => absurd q (by decide), fun _ => ?_, fun q => absurd q (by decide), fun q => absurd q (by decide), fun q => absurd q (by decide), fun q => absurd q (by decide), fun q => absurd q (by decide), fun q => absurd q (by decide), fun q => absurd q (by decide)⟩
  refine c_stage c9 hn ?_
  rw [h24]
  refine c_value (w := 1) c9 hn (subN 2 1 rfl rfl (by omega)) (by omega) ?_
  refine fin_give (μ' := wI μ 0 26 (nI n)) hW hRA hs (hcl.w (by omega)) hfl hn hC hφ hB (hbdg _) Fc.rf Fm.rf.top (Nat.le_refl _) (fun _ _ => rfl) (fun _ _ => rfl) (Nat.le_refl _) m45 rfl m36 hV ?_ kk
  refine ms_up m36 ht0 (fun K q => m_up m26 (by omega) x21 ha60 x23 hk (by omega) p22 (by omega) (fun h _ => absurd h (by decide)) (fun _ h => absurd h (by omega)) (fun _ _ => ?_))
  unfold wX11_upOf
  repeat refine gS (by decide) ?_
  intro _ _ _ _ _ _ _ _ _ _ _ _ _ _ _ _ _ _
  unfold wX11_upLater
  repeat refine gS (by decide) ?_
  intro _ _ _ _ _ _ _ _ _ _
  unfold wX11_upLater_332
  rw [et]
  exact q
theorem sv22_0 {so dl ln : Nat → Nat} {th us lm mk ch tl cl fl na s lim n a f m φ : Nat} {σ μ : Sg} {Q : Sg → Prop} (h : Vx so dl ln th us lm mk ch tl cl fl na s lim n a f 22 0 m φ σ μ) (kk : ∀ σ' μ', MR μ μ' → Rr φ σ' μ' → Q σ') : TC σ Q := by
  obtain ⟨⟨hB, hbd, hRA, hs, hW⟩, hE, h24, hcl, hfl, hC, hφ, m45, m26, m36, hV, hX⟩ := h
  have hC0 := hC
  obtain ⟨c8, c9, c3, c4, c5⟩ := hC0
  rw [show n + 1 - 1 = n by omega] at c9
  have hbd0 := hbd
  obtain ⟨g1, g2, g3, g4, g5, g6, g7, g8, g9, g10, g11⟩ := hbd0
  obtain ⟨ha, hf, hk32, hcap, hm, h22, x21, h23, x23, hk, h26, x28, -, hst⟩ := id hE
  have h22 : sI σ 22 n = nI a := h22
  have h23 : sI σ 23 n = nI f := h23
  have h26 : sI σ 26 n = nI m := h26
  have ha60 : a < 60 := Nat.lt_of_lt_of_le ha hRA.2.2.1
  obtain ⟨k', hk', hk1, r0, r1, r2, r3, r4, r5, r6, r7, r8, r9, r10, r11⟩ := hRA.2.2.2 a ha
  have ek : 22 = k' := eqN (hk.symm.trans hk1) (by omega) (by omega)
  subst ek
  have e1 : sI σ 6 3 = nI us := hB.2.2.2.2.2.2.1.1
  have e5 : sI μ 0 44 = nI fl := hB.2.2.2.2.2.2.2.1.2.2.2.2.2.1
  have hn : n < 200 := by omega
  have hcn := cnt_le (P := isCl σ μ) n
  have et : sI μ 0 26 - (1 : Int32) = nI n := subN (n + 1) 1 m26 rfl (by omega)
  have hvn : vp_in (nI n) 220 := vp_in_nI (by omega) (by decide)
  have hva : vp_in (nI a) 60 := vp_in_nI ha60 (by decide)
  have en : (nI n).toNatClampNeg = n := nI_clamp (by omega)
  have ea : (nI a).toNatClampNeg = a := nI_clamp (by omega)
  have ht0 : ¬ sI μ 0 26 = 0 := neN (n + 1) 0 m26 rfl (by omega) (by omega) (by decide)
  have hcl : Cn cl ch s (17 * (n + 1) + 15) σ μ n := hcl.no (by decide)
  have hc1 : cl = cnt (isCl σ μ) n := hcl.1
  have hc2 := hcl.2
  have hbdn : Bd th us lm mk ch tl cl s lim n := ⟨by omega, by omega, by omega, by omega, by omega, g6, g7, g8, g9, g10, g11⟩
  have hbdg : ∀ t : Int32, Bd th us lm mk ch tl cl s lim n ∧ Xv t us mk cl s n := fun t => ⟨hbdn, Xv.mk g1 (by omega)⟩
  rw [Nat.add_zero] at hV
  obtain ⟨h27, p22, -, -, -⟩ : sI σ 27 n = 0 ∧ sI μ 22 n = nI 0 ∧ True ∧ True ∧ True := by
    rcases hst with h | h
    · exact ⟨h.1, h.2.1, trivial, trivial, trivial⟩
    · exact absurd h.2.1 (by decide)
  obtain ⟨p1, y, hy, p2⟩ := r6 (by decide)
  have p2' : sI μ 3 a = nI y := p2
  refine sv_work (j := 1) c3 hRA c9 hn h22 ha r4 h24 (by omega) r0 hB (by omega) (fun lx ly _ _ Q' q => of_none (by simp) q) ?_
  refine wk_sel hRA.1 hRA.2.2.1 c9 hn h22 ha r0 ?_ (by omega)
  refine ⟨fun q => absurd q (by decide), fun q => absurd q (by decide), fun q => absurd q (by decide), fun _ => ?_, fun q => absurd q (by decide), fun q => absurd q (by decide), fun q => absurd q (by decide), fun q => absurd q (by decide), fun q => absurd q (by decide), fun q => absurd q (by decide)⟩
  unfold wX6_doAlways
  refine c_stage c9 hn (gT h24 ?_)
  refine fin_part (μ' := mStart (mKX μ n) (sI μ 3 a) (nI f)) (j' := 1) (w := 1) (y := y) hW hRA hs hcl hfl hC hφ hB hbd Fc.rf ?_ (ent_mk (j' := 1) hE (by decide) rfl rfl rfl h27 h24 rfl rfl rfl (fun _ => rfl) ?_ (Nat.le_refl _) (fun _ _ => ?_) (fun h => absurd h (by omega)) (fun h => absurd h (by decide))) (by decide) rfl (by omega) (p1.trans p2) (by omega) m45 m26 rfl p2' rfl (ms_up m36 ht0 (fun K q => m_up m26 (by omega) x21 ha60 x23 hk (by omega) p22 (by omega) (fun _ _ => q) (fun h _ => absurd h (by decide)) (fun h _ => absurd ⟨rfl, Or.inl (by unfold isP2; omega)⟩ h))) kk
  · exact Fm.start (((Fm.rf.w1 (Or.inr (Or.inr ⟨by decide, Nat.le_refl _⟩))).w1 (Or.inr (Or.inr ⟨by decide, Nat.le_refl _⟩))).w1 (Or.inr (Or.inr ⟨by decide, Nat.le_refl _⟩)))
  · unfold mStart mKX
    rw [i_o (by decide), i_o (by decide), i_o (by decide), i_e]
    rfl
  · have x1 : sI (mStart (mKX μ n) (sI μ 3 a) (nI f)) 24 n = sI μ 0 39 := by simp [mStart, mKX, sI_wI]
    have x2 : sI (mStart (mKX μ n) (sI μ 3 a) (nI f)) 25 n = sI μ 0 40 := by simp [mStart, mKX, sI_wI]
    rw [x1, x2]
    exact hV
theorem sv22_1 {so dl ln : Nat → Nat} {th us lm mk ch tl cl fl na s lim n a f m φ : Nat} {σ μ : Sg} {Q : Sg → Prop} (h : Vx so dl ln th us lm mk ch tl cl fl na s lim n a f 22 1 m φ σ μ) (kk : ∀ σ' μ', MR μ μ' → Rr φ σ' μ' → Q σ') : TC σ Q := by
  obtain ⟨⟨hB, hbd, hRA, hs, hW⟩, hE, h24, hcl, hfl, hC, hφ, m45, m26, m36, hV, hX⟩ := h
  have hC0 := hC
  obtain ⟨c8, c9, c3, c4, c5⟩ := hC0
  rw [show n + 1 - 1 = n by omega] at c9
  have hbd0 := hbd
  obtain ⟨g1, g2, g3, g4, g5, g6, g7, g8, g9, g10, g11⟩ := hbd0
  obtain ⟨ha, hf, hk32, hcap, hm, h22, x21, h23, x23, hk, h26, x28, -, hst⟩ := id hE
  have h22 : sI σ 22 n = nI a := h22
  have h23 : sI σ 23 n = nI f := h23
  have h26 : sI σ 26 n = nI m := h26
  have ha60 : a < 60 := Nat.lt_of_lt_of_le ha hRA.2.2.1
  obtain ⟨k', hk', hk1, r0, r1, r2, r3, r4, r5, r6, r7, r8, r9, r10, r11⟩ := hRA.2.2.2 a ha
  have ek : 22 = k' := eqN (hk.symm.trans hk1) (by omega) (by omega)
  subst ek
  have e1 : sI σ 6 3 = nI us := hB.2.2.2.2.2.2.1.1
  have e5 : sI μ 0 44 = nI fl := hB.2.2.2.2.2.2.2.1.2.2.2.2.2.1
  have hn : n < 200 := by omega
  have hcn := cnt_le (P := isCl σ μ) n
  have et : sI μ 0 26 - (1 : Int32) = nI n := subN (n + 1) 1 m26 rfl (by omega)
  have hvn : vp_in (nI n) 220 := vp_in_nI (by omega) (by decide)
  have hva : vp_in (nI a) 60 := vp_in_nI ha60 (by decide)
  have en : (nI n).toNatClampNeg = n := nI_clamp (by omega)
  have ea : (nI a).toNatClampNeg = a := nI_clamp (by omega)
  have ht0 : ¬ sI μ 0 26 = 0 := neN (n + 1) 0 m26 rfl (by omega) (by omega) (by decide)
  have hcl : Cn cl ch s (17 * (n + 1) + 15) σ μ n := hcl.no (by decide)
  have hc1 : cl = cnt (isCl σ μ) n := hcl.1
  have hc2 := hcl.2
  have hbdn : Bd th us lm mk ch tl cl s lim n := ⟨by omega, by omega, by omega, by omega, by omega, g6, g7, g8, g9, g10, g11⟩
  have hbdg : ∀ t : Int32, Bd th us lm mk ch tl cl s lim n ∧ Xv t us mk cl s n := fun t => ⟨hbdn, Xv.mk g1 (by omega)⟩
  refine tc_after c3 hRA.1 hRA.2.2.1 c9 hn h22 ha r4 h24 (by omega) (by decide) ?_
  refine wk_sel hRA.1 hRA.2.2.1 c9 hn h22 ha r0 ?_ (by omega)
  refine ⟨fun q => absurd q (by decide), fun q => absurd q (by decide), fun q => absurd q (by decide), fun _ => ?_, fun q => absurd q (by decide), fun q => absurd q (by decide), fun q => absurd q (by decide), fun q => absurd q (by decide), fun q => absurd q (by decide), fun q => absurd q (by decide)⟩
  unfold wX6_doAlways
  refine c_stage c9 hn (gF (by rw [h24]; decide) ?_)
  rcases hst with ⟨x27, p22, d1, -, -⟩ | ⟨-, -, p22, ⟨e, he1, he8, hee⟩, y24, y25, y29⟩
  · have x27 : sI σ 27 n = 0 := x27
    have d1 : 1 ≤ 1 → kpX 22 = true → V so dl th (sL σ 25 (3 * n)) (sI μ 24 n) (sI μ 25 n) := d1
    refine c_holds c9 hn (fun _ => gT rfl ?_) (fun g => absurd x27 g)
    refine c_value (w := 0) c9 hn rfl (by omega) ?_
    rw [Nat.add_zero]
    refine fin_give (μ' := mVal (wI μ 0 26 (nI n)) (sI μ 24 n) (sI μ 25 n)) hW hRA hs (hcl.w (by omega)) hfl hn hC hφ hB (hbdg _) Fc.rf Fm.rf.top.val (Nat.le_refl _) (fun _ _ => rfl) (fun _ _ => rfl) (Nat.le_refl _) m45 rfl rfl (d1 (by decide) (by decide)) ?_ kk
    refine ms_up m36 ht0 (fun K q => m_up m26 (by omega) x21 ha60 x23 hk (by omega) p22 (by omega) (fun h _ => absurd h (by decide)) (fun _ h => absurd h (by omega)) (fun _ _ => ?_))
    unfold wX11_upOf
    repeat refine gS (by decide) ?_
    intro _ _ _ _ _ _ _ _ _ _ _ _ _ _ _ _ _ _
    unfold wX11_upLater
    repeat refine gS (by decide) ?_
    refine ⟨fun _ => ?_, ?_⟩
    · rw [et, en]
      exact gT rfl ⟨hvn, hvn, q⟩
    · repeat refine gS (by decide) ?_
      intros; contradiction
  · have hee : sI σ 27 n = nI e := hee
    have y24 : sI μ 24 n = sI σ 27 n := y24
    have y25 : sI μ 25 n = sI σ 28 n := y25
    have y29 : sI μ 29 n = sI σ 29 n := y29
    have he0 : ¬ sI σ 27 n = 0 := neN e 0 hee rfl (by omega) (by omega) (by omega)
    refine c_holds c9 hn (fun g => absurd g he0) (fun _ => gF ne10 ?_)
    refine c_letGo c9 hn (c_pop (t := n) c9 hn ?_)
    refine kk _ (mGo (wI μ 0 26 (nI n)) 2 (sI μ 24 n) (sI μ 25 n) (sI μ 29 n)) ?_ (Or.inr (Or.inr (Or.inr (Or.inl ?_))))
    · refine ms_up m36 ht0 (fun K q => m_up (p := 2) m26 (by omega) x21 ha60 x23 hk (by omega) p22 (by omega) (fun h _ => absurd h (by decide)) (fun h _ => absurd h (by decide)) (fun _ _ => ?_))
      unfold wX11_upOf
      repeat refine gS (by decide) ?_
      intro _ _ _ _ _ _ _ _ _ _ _ _ _ _ _ _ _ _
      unfold wX11_upLater
      repeat refine gS (by decide) ?_
      refine ⟨fun _ => ?_, ?_⟩
      · rw [et, en]
        exact gF (by decide) ⟨hvn, hvn, hvn, q⟩
      · repeat refine gS (by decide) ?_
        intros; contradiction
    · exact ⟨so, dl, ln, th, us, lm, mk, ch, tl, cl, fl, na, s, lim, n, e, ⟨hB, hbdn, hRA, hs, hW⟩, hcl.w (by omega), he1, by omega, fun _ => hfl, by omega, ⟨rfl, rfl, hee, rfl, rfl⟩, by rw [if_pos (by omega)]; omega, m45, rfl, by rw [if_pos (by omega)]; rfl, y24.trans hee, y25, y29⟩
theorem sv23_0 {so dl ln : Nat → Nat} {th us lm mk ch tl cl fl na s lim n a f m φ : Nat} {σ μ : Sg} {Q : Sg → Prop} (h : Vx so dl ln th us lm mk ch tl cl fl na s lim n a f 23 0 m φ σ μ) (kk : ∀ σ' μ', MR μ μ' → Rr φ σ' μ' → Q σ') : TC σ Q := by
  obtain ⟨⟨hB, hbd, hRA, hs, hW⟩, hE, h24, hcl, hfl, hC, hφ, m45, m26, m36, hV, hX⟩ := h
  have hC0 := hC
  obtain ⟨c8, c9, c3, c4, c5⟩ := hC0
  rw [show n + 1 - 1 = n by omega] at c9
  have hbd0 := hbd
  obtain ⟨g1, g2, g3, g4, g5, g6, g7, g8, g9, g10, g11⟩ := hbd0
  obtain ⟨ha, hf, hk32, hcap, hm, h22, x21, h23, x23, hk, h26, x28, -, hst⟩ := id hE
  have h22 : sI σ 22 n = nI a := h22
  have h23 : sI σ 23 n = nI f := h23
  have h26 : sI σ 26 n = nI m := h26
  have ha60 : a < 60 := Nat.lt_of_lt_of_le ha hRA.2.2.1
  obtain ⟨k', hk', hk1, r0, r1, r2, r3, r4, r5, r6, r7, r8, r9, r10, r11⟩ := hRA.2.2.2 a ha
  have ek : 23 = k' := eqN (hk.symm.trans hk1) (by omega) (by omega)
  subst ek
  have e1 : sI σ 6 3 = nI us := hB.2.2.2.2.2.2.1.1
  have e5 : sI μ 0 44 = nI fl := hB.2.2.2.2.2.2.2.1.2.2.2.2.2.1
  have hn : n < 200 := by omega
  have hcn := cnt_le (P := isCl σ μ) n
  have et : sI μ 0 26 - (1 : Int32) = nI n := subN (n + 1) 1 m26 rfl (by omega)
  have hvn : vp_in (nI n) 220 := vp_in_nI (by omega) (by decide)
  have hva : vp_in (nI a) 60 := vp_in_nI ha60 (by decide)
  have en : (nI n).toNatClampNeg = n := nI_clamp (by omega)
  have ea : (nI a).toNatClampNeg = a := nI_clamp (by omega)
  have ht0 : ¬ sI μ 0 26 = 0 := neN (n + 1) 0 m26 rfl (by omega) (by omega) (by decide)
  have hcl : Cn cl ch s (17 * (n + 1) + 15) σ μ n := hcl.no (by decide)
  have hc1 : cl = cnt (isCl σ μ) n := hcl.1
  have hc2 := hcl.2
  have hbdn : Bd th us lm mk ch tl cl s lim n := ⟨by omega, by omega, by omega, by omega, by omega, g6, g7, g8, g9, g10, g11⟩
  have hbdg : ∀ t : Int32, Bd th us lm mk ch tl cl s lim n ∧ Xv t us mk cl s n := fun t => ⟨hbdn, Xv.mk g1 (by omega)⟩
  obtain ⟨h27, p22, d1, d2, d3⟩ : sI σ 27 n = 0 ∧ sI μ 22 n = nI 0 ∧ (1 ≤ 0 → kpX 23 = true → V so dl th (sL σ 25 (3 * n)) (sI μ 24 n) (sI μ 25 n)) ∧ (2 ≤ 0 → V so dl th (sL σ 25 (3 * n + 1)) (sI μ 26 n) (sI μ 27 n)) ∧ (23 = 28 → 1 ≤ 0 → ∃ q, q < th ∧ so q = 7 ∧ sL σ 25 (3 * n) = pk 7 (nI (dl q)) ∧ sI μ 25 n = nI q) := by
    rcases hst with h | h
    · exact h
    · exact absurd h.1 (by decide)
  rw [Nat.add_zero] at hV
  by_cases tx0 : sI μ 0 39 = 0
  · have eX : nbr (sL σ 25 (3 * n)) = sI μ 0 40 := hV.num tx0
    refine sv_work (j := 1) c3 hRA c9 hn h22 ha r4 h24 (by omega) r0 hB (by omega) (fun lx ly _ _ Q' q => of_w1 (by omega) (by rw [hV.fwt, tx0]; exact q)) ?_
    refine wk_sel hRA.1 hRA.2.2.1 c9 hn h22 ha r0 ?_ (by omega)
    refine ⟨fun q => absurd q (by decide), fun q => absurd q (by decide), fun q => absurd q (by decide), fun q => absurd q (by decide), fun _ => ?_, fun q => absurd q (by decide), fun q => absurd q (by decide), fun q => absurd q (by decide), fun q => absurd q (by decide), fun q => absurd q (by decide)⟩
    unfold wX6_choose wX6_choose_31
    refine c_stage c9 hn (gT h24 (c_value (w := 0) c9 hn rfl (by omega) (c_number ?_)))
    rw [Nat.add_zero, eX]
    by_cases z0 : sI μ 0 40 = 0
    · refine gT z0 ?_
      obtain ⟨p1, y, hy, p2⟩ := r7 (by decide)
      have p2' : sI μ 4 a = nI y := p2
      refine fin_part (μ' := mStart (wI μ 22 n 1) (sI μ 4 a) (nI f)) (j' := 1) (w := 2) (y := y) hW hRA hs hcl hfl hC hφ hB hbd Fc.rf ?_ (ent_mk (j' := 1) hE (by decide) rfl rfl rfl h27 h24 rfl rfl rfl (fun _ => rfl) ?_ (Nat.le_refl _) (fun _ h => absurd h (by decide)) (fun h => absurd h (by omega)) (fun h => absurd h (by decide))) (by decide) rfl (by omega) (p1.trans p2) (by omega) m45 m26 rfl p2' rfl ?_ kk
      · exact Fm.start (Fm.rf.w1 (Or.inr (Or.inr ⟨by decide, Nat.le_refl _⟩)))
      · unfold mStart
        rw [i_o (by decide), i_o (by decide), i_o (by decide), i_e]
        rfl
      · refine ms_up m36 ht0 (fun K q => m_up m26 (by omega) x21 ha60 x23 hk (by omega) p22 (by omega) (fun _ h => absurd h (by unfold isP2; omega)) (fun h _ => absurd h (by decide)) (fun _ _ => ?_))
        unfold wX11_upOf
        repeat refine gS (by decide) ?_
        intro _ _ _ _ _ _ _ _ _ _ _ _ _ _ _ _ _ _
        unfold wX11_upLater
        repeat refine gS (by decide) ?_
        refine ⟨fun _ => ?_, ?_⟩
        · refine gF (by decide) (m_isWhole e5 hfl (fun _ => gF ne10 ⟨hvn, ?_⟩) (fun g => absurd tx0 g))
          rw [en, ea]
          exact gT z0 ⟨hva, q⟩
        · repeat refine gS (by decide) ?_
          intros; contradiction
    · refine gF z0 ?_
      obtain ⟨p1, y, hy, p2⟩ := r6 (by decide)
      have p2' : sI μ 3 a = nI y := p2
      refine fin_part (μ' := mStart (wI μ 22 n 1) (sI μ 3 a) (nI f)) (j' := 1) (w := 1) (y := y) hW hRA hs hcl hfl hC hφ hB hbd Fc.rf ?_ (ent_mk (j' := 1) hE (by decide) rfl rfl rfl h27 h24 rfl rfl rfl (fun _ => rfl) ?_ (Nat.le_refl _) (fun _ h => absurd h (by decide)) (fun h => absurd h (by omega)) (fun h => absurd h (by decide))) (by decide) rfl (by omega) (p1.trans p2) (by omega) m45 m26 rfl p2' rfl ?_ kk
      · exact Fm.start (Fm.rf.w1 (Or.inr (Or.inr ⟨by decide, Nat.le_refl _⟩)))
      · unfold mStart
        rw [i_o (by decide), i_o (by decide), i_o (by decide), i_e]
        rfl
      · refine ms_up m36 ht0 (fun K q => m_up m26 (by omega) x21 ha60 x23 hk (by omega) p22 (by omega) (fun _ h => absurd h (by unfold isP2; omega)) (fun h _ => absurd h (by decide)) (fun _ _ => ?_))
        unfold wX11_upOf
        repeat refine gS (by decide) ?_
        intro _ _ _ _ _ _ _ _ _ _ _ _ _ _ _ _ _ _
        unfold wX11_upLater
        repeat refine gS (by decide) ?_
        refine ⟨fun _ => ?_, ?_⟩
        · refine gF (by decide) (m_isWhole e5 hfl (fun _ => gF ne10 ⟨hvn, ?_⟩) (fun g => absurd tx0 g))
          rw [en, ea]
          exact gF z0 ⟨hva, q⟩
        · repeat refine gS (by decide) ?_
          intros; contradiction
  · obtain ⟨e, he1, he8, he7, hee⟩ := ft_e tx0
    refine sv_fail (j := 1) (e := e) (r := ft (sI μ 0 39)) (c := ft (sI μ 0 39)) c3 hRA c9 hn h22 ha r4 h24 (by omega) r0 hB hbdn hW hs (hcl.w (by omega)) hfl hC hφ m45 (by omega) hee he1 he8 (fun lx ly _ _ Q' q => of_w1 (by omega) (by rw [hV.fwt]; exact q)) (if_neg (ft_7 tx0)) ?_ kk
    rw [← hee]
    refine ms_up m36 ht0 (fun K q => m_up m26 (by omega) x21 ha60 x23 hk (by omega) p22 (by omega) (fun _ h => absurd h (by unfold isP2; omega)) (fun h _ => absurd h (by decide)) (fun _ _ => ?_))
    unfold wX11_upOf
    repeat refine gS (by decide) ?_
    intro _ _ _ _ _ _ _ _ _ _ _ _ _ _ _ _ _ _
    unfold wX11_upLater
    repeat refine gS (by decide) ?_
    refine ⟨fun _ => ?_, ?_⟩
    · refine gF (by decide) (m_isWhole e5 hfl (fun g => absurd g tx0) (fun _ => gT rfl ?_))
      rw [mFail_26, et, mFail_top]
      exact q
    · repeat refine gS (by decide) ?_
      intros; contradiction
theorem sv23_1 {so dl ln : Nat → Nat} {th us lm mk ch tl cl fl na s lim n a f m φ : Nat} {σ μ : Sg} {Q : Sg → Prop} (h : Vx so dl ln th us lm mk ch tl cl fl na s lim n a f 23 1 m φ σ μ) (kk : ∀ σ' μ', MR μ μ' → Rr φ σ' μ' → Q σ') : TC σ Q := by
  obtain ⟨⟨hB, hbd, hRA, hs, hW⟩, hE, h24, hcl, hfl, hC, hφ, m45, m26, m36, hV, hX⟩ := h
  have hC0 := hC
  obtain ⟨c8, c9, c3, c4, c5⟩ := hC0
  rw [show n + 1 - 1 = n by omega] at c9
  have hbd0 := hbd
  obtain ⟨g1, g2, g3, g4, g5, g6, g7, g8, g9, g10, g11⟩ := hbd0
  obtain ⟨ha, hf, hk32, hcap, hm, h22, x21, h23, x23, hk, h26, x28, -, hst⟩ := id hE
  have h22 : sI σ 22 n = nI a := h22
  have h23 : sI σ 23 n = nI f := h23
  have h26 : sI σ 26 n = nI m := h26
  have ha60 : a < 60 := Nat.lt_of_lt_of_le ha hRA.2.2.1
  obtain ⟨k', hk', hk1, r0, r1, r2, r3, r4, r5, r6, r7, r8, r9, r10, r11⟩ := hRA.2.2.2 a ha
  have ek : 23 = k' := eqN (hk.symm.trans hk1) (by omega) (by omega)
  subst ek
  have e1 : sI σ 6 3 = nI us := hB.2.2.2.2.2.2.1.1
  have e5 : sI μ 0 44 = nI fl := hB.2.2.2.2.2.2.2.1.2.2.2.2.2.1
  have hn : n < 200 := by omega
  have hcn := cnt_le (P := isCl σ μ) n
  have et : sI μ 0 26 - (1 : Int32) = nI n := subN (n + 1) 1 m26 rfl (by omega)
  have hvn : vp_in (nI n) 220 := vp_in_nI (by omega) (by decide)
  have hva : vp_in (nI a) 60 := vp_in_nI ha60 (by decide)
  have en : (nI n).toNatClampNeg = n := nI_clamp (by omega)
  have ea : (nI a).toNatClampNeg = a := nI_clamp (by omega)
  have ht0 : ¬ sI μ 0 26 = 0 := neN (n + 1) 0 m26 rfl (by omega) (by omega) (by decide)
  have hcl : Cn cl ch s (17 * (n + 1) + 15) σ μ n := hcl.no (by decide)
  have hc1 : cl = cnt (isCl σ μ) n := hcl.1
  have hc2 := hcl.2
  have hbdn : Bd th us lm mk ch tl cl s lim n := ⟨by omega, by omega, by omega, by omega, by omega, g6, g7, g8, g9, g10, g11⟩
  have hbdg : ∀ t : Int32, Bd th us lm mk ch tl cl s lim n ∧ Xv t us mk cl s n := fun t => ⟨hbdn, Xv.mk g1 (by omega)⟩
  obtain ⟨h27, p22, d1, d2, d3⟩ : sI σ 27 n = 0 ∧ sI μ 22 n = nI 1 ∧ (1 ≤ 1 → kpX 23 = true → V so dl th (sL σ 25 (3 * n)) (sI μ 24 n) (sI μ 25 n)) ∧ (2 ≤ 1 → V so dl th (sL σ 25 (3 * n + 1)) (sI μ 26 n) (sI μ 27 n)) ∧ (23 = 28 → 1 ≤ 1 → ∃ q, q < th ∧ so q = 7 ∧ sL σ 25 (3 * n) = pk 7 (nI (dl q)) ∧ sI μ 25 n = nI q) := by
    rcases hst with h | h
    · exact h
    · exact absurd h.1 (by decide)
  refine tc_after c3 hRA.1 hRA.2.2.1 c9 hn h22 ha r4 h24 (by omega) (by decide) ?_
  refine wk_sel hRA.1 hRA.2.2.1 c9 hn h22 ha r0 ?_ (by omega)
  refine ⟨fun q => absurd q (by decide), fun q => absurd q (by decide), fun q => absurd q (by decide), fun q => absurd q (by decide), fun _ => ?_, fun q => absurd q (by decide), fun q => absurd q (by decide), fun q => absurd q (by decide), fun q => absurd q (by decide), fun q => absurd q (by decide)⟩
  unfold wX6_choose
  refine c_stage c9 hn (gF (by rw [h24]; decide) (c_value (w := 1) c9 hn rfl (by omega) ?_))
  refine fin_give (μ' := wI μ 0 26 (nI n)) hW hRA hs (hcl.w (by omega)) hfl hn hC hφ hB (hbdg _) Fc.rf Fm.rf.top (Nat.le_refl _) (fun _ _ => rfl) (fun _ _ => rfl) (Nat.le_refl _) m45 rfl m36 hV ?_ kk
  refine ms_up m36 ht0 (fun K q => m_up m26 (by omega) x21 ha60 x23 hk (by omega) p22 (by omega) (fun h _ => absurd h (by decide)) (fun _ h => absurd h (by omega)) (fun _ _ => ?_))
  unfold wX11_upOf
  repeat refine gS (by decide) ?_
  intro _ _ _ _ _ _ _ _ _ _ _ _ _ _ _ _ _ _
  unfold wX11_upLater
  repeat refine gS (by decide) ?_
  refine ⟨fun _ => ?_, ?_⟩
  · refine gT rfl ?_
    rw [et]
    exact q
  · repeat refine gS (by decide) ?_
    intros; contradiction
theorem sv24_0 {so dl ln : Nat → Nat} {th us lm mk ch tl cl fl na s lim n a f m φ : Nat} {σ μ : Sg} {Q : Sg → Prop} (h : Vx so dl ln th us lm mk ch tl cl fl na s lim n a f 24 0 m φ σ μ) (kk : ∀ σ' μ', MR μ μ' → Rr φ σ' μ' → Q σ') : TC σ Q := by
  obtain ⟨⟨hB, hbd, hRA, hs, hW⟩, hE, h24, hcl, hfl, hC, hφ, m45, m26, m36, hV, hX⟩ := h
  have hC0 := hC
  obtain ⟨c8, c9, c3, c4, c5⟩ := hC0
  rw [show n + 1 - 1 = n by omega] at c9
  have hbd0 := hbd
  obtain ⟨g1, g2, g3, g4, g5, g6, g7, g8, g9, g10, g11⟩ := hbd0
  obtain ⟨ha, hf, hk32, hcap, hm, h22, x21, h23, x23, hk, h26, x28, -, hst⟩ := id hE
  have h22 : sI σ 22 n = nI a := h22
  have h23 : sI σ 23 n = nI f := h23
  have h26 : sI σ 26 n = nI m := h26
  have ha60 : a < 60 := Nat.lt_of_lt_of_le ha hRA.2.2.1
  obtain ⟨k', hk', hk1, r0, r1, r2, r3, r4, r5, r6, r7, r8, r9, r10, r11⟩ := hRA.2.2.2 a ha
  have ek : 24 = k' := eqN (hk.symm.trans hk1) (by omega) (by omega)
  subst ek
  have e1 : sI σ 6 3 = nI us := hB.2.2.2.2.2.2.1.1
  have e5 : sI μ 0 44 = nI fl := hB.2.2.2.2.2.2.2.1.2.2.2.2.2.1
  have hn : n < 200 := by omega
  have hcn := cnt_le (P := isCl σ μ) n
  have et : sI μ 0 26 - (1 : Int32) = nI n := subN (n + 1) 1 m26 rfl (by omega)
  have hvn : vp_in (nI n) 220 := vp_in_nI (by omega) (by decide)
  have hva : vp_in (nI a) 60 := vp_in_nI ha60 (by decide)
  have en : (nI n).toNatClampNeg = n := nI_clamp (by omega)
  have ea : (nI a).toNatClampNeg = a := nI_clamp (by omega)
  have ht0 : ¬ sI μ 0 26 = 0 := neN (n + 1) 0 m26 rfl (by omega) (by omega) (by decide)
  have hcl : Cn cl ch s (17 * (n + 1) + 15) σ μ n := hcl.no (by decide)
  have hc1 : cl = cnt (isCl σ μ) n := hcl.1
  have hc2 := hcl.2
  have hbdn : Bd th us lm mk ch tl cl s lim n := ⟨by omega, by omega, by omega, by omega, by omega, g6, g7, g8, g9, g10, g11⟩
  have hbdg : ∀ t : Int32, Bd th us lm mk ch tl cl s lim n ∧ Xv t us mk cl s n := fun t => ⟨hbdn, Xv.mk g1 (by omega)⟩
  obtain ⟨h27, p22, d1, d2, d3⟩ : sI σ 27 n = 0 ∧ sI μ 22 n = nI 0 ∧ (1 ≤ 0 → kpX 24 = true → V so dl th (sL σ 25 (3 * n)) (sI μ 24 n) (sI μ 25 n)) ∧ (2 ≤ 0 → V so dl th (sL σ 25 (3 * n + 1)) (sI μ 26 n) (sI μ 27 n)) ∧ (24 = 28 → 1 ≤ 0 → ∃ q, q < th ∧ so q = 7 ∧ sL σ 25 (3 * n) = pk 7 (nI (dl q)) ∧ sI μ 25 n = nI q) := by
    rcases hst with h | h
    · exact h
    · exact absurd h.1 (by decide)
  rw [Nat.add_zero] at hV
  by_cases tx0 : sI μ 0 39 = 0
  · have eX : nbr (sL σ 25 (3 * n)) = sI μ 0 40 := hV.num tx0
    refine sv_work (j := 1) c3 hRA c9 hn h22 ha r4 h24 (by omega) r0 hB (by omega) (fun lx ly _ _ Q' q => of_w1 (by omega) (by rw [hV.fwt, tx0]; exact q)) ?_
    refine wk_sel hRA.1 hRA.2.2.1 c9 hn h22 ha r0 ?_ (by omega)
    refine ⟨fun q => absurd q (by decide), fun q => absurd q (by decide), fun q => absurd q (by decide), fun q => absurd q (by decide), fun q => absurd q (by decide), fun _ => ?_, fun q => absurd q (by decide), fun q => absurd q (by decide), fun q => absurd q (by decide), fun q => absurd q (by decide)⟩
    unfold wX6_loop
    refine c_stage c9 hn (gF (by rw [h24]; decide) (c_value (w := 0) c9 hn rfl (by omega) (c_number ?_)))
    rw [Nat.add_zero, eX]
    by_cases z0 : sI μ 0 40 = 0
    · refine gT z0 ?_
      rw [pk_none]
      refine fin_give (μ' := mVal (wI μ 0 26 (nI n)) 1 0) hW hRA hs (hcl.w (by omega)) hfl hn hC hφ hB (hbdg _) Fc.rf Fm.rf.top.val (Nat.le_refl _) (fun _ _ => rfl) (fun _ _ => rfl) (Nat.le_refl _) m45 rfl rfl V.no ?_ kk
      refine ms_up m36 ht0 (fun K q => m_up m26 (by omega) x21 ha60 x23 hk (by omega) p22 (by omega) (fun _ h => absurd h (by unfold isP2; omega)) (fun h _ => absurd h (by decide)) (fun _ _ => ?_))
      unfold wX11_upOf
      repeat refine gS (by decide) ?_
      intro _ _ _ _ _ _ _ _ _ _ _ _ _ _ _ _ _ _
      unfold wX11_upLater
      repeat refine gS (by decide) ?_
      refine ⟨fun _ => ?_, ?_⟩
      · unfold wX11_upLoop
        refine gF (by decide) (m_isWhole e5 hfl (fun _ => gF ne10 (gT z0 ?_)) (fun g => absurd tx0 g))
        rw [et]
        exact q
      · repeat refine gS (by decide) ?_
        intros; contradiction
    · refine gF z0 ?_
      obtain ⟨p1, y, hy, p2⟩ := r6 (by decide)
      have p2' : sI μ 3 a = nI y := p2
      refine fin_part (μ' := mStart (wI μ 22 n 1) (sI μ 3 a) (nI f)) (j' := 1) (w := 1) (y := y) hW hRA hs hcl hfl hC hφ hB hbd Fc.rf ?_ (ent_mk (j' := 1) hE (by decide) rfl rfl rfl h27 h24 rfl rfl rfl (fun _ => rfl) ?_ (Nat.le_refl _) (fun _ h => absurd h (by decide)) (fun h => absurd h (by omega)) (fun h => absurd h (by decide))) (by decide) rfl (by omega) (p1.trans p2) (by omega) m45 m26 rfl p2' rfl ?_ kk
      · exact Fm.start (Fm.rf.w1 (Or.inr (Or.inr ⟨by decide, Nat.le_refl _⟩)))
      · unfold mStart
        rw [i_o (by decide), i_o (by decide), i_o (by decide), i_e]
        rfl
      · refine ms_up m36 ht0 (fun K q => m_up m26 (by omega) x21 ha60 x23 hk (by omega) p22 (by omega) (fun _ h => absurd h (by unfold isP2; omega)) (fun h _ => absurd h (by decide)) (fun _ _ => ?_))
        unfold wX11_upOf
        repeat refine gS (by decide) ?_
        intro _ _ _ _ _ _ _ _ _ _ _ _ _ _ _ _ _ _
        unfold wX11_upLater
        repeat refine gS (by decide) ?_
        refine ⟨fun _ => ?_, ?_⟩
        · unfold wX11_upLoop
          refine gF (by decide) (m_isWhole e5 hfl (fun _ => gF ne10 (gF z0 ⟨hvn, ?_⟩)) (fun g => absurd tx0 g))
          rw [en, ea]
          exact ⟨hva, q⟩
        · repeat refine gS (by decide) ?_
          intros; contradiction
  · obtain ⟨e, he1, he8, he7, hee⟩ := ft_e tx0
    refine sv_fail (j := 1) (e := e) (r := ft (sI μ 0 39)) (c := ft (sI μ 0 39)) c3 hRA c9 hn h22 ha r4 h24 (by omega) r0 hB hbdn hW hs (hcl.w (by omega)) hfl hC hφ m45 (by omega) hee he1 he8 (fun lx ly _ _ Q' q => of_w1 (by omega) (by rw [hV.fwt]; exact q)) (if_neg (ft_7 tx0)) ?_ kk
    rw [← hee]
    refine ms_up m36 ht0 (fun K q => m_up m26 (by omega) x21 ha60 x23 hk (by omega) p22 (by omega) (fun _ h => absurd h (by unfold isP2; omega)) (fun h _ => absurd h (by decide)) (fun _ _ => ?_))
    unfold wX11_upOf
    repeat refine gS (by decide) ?_
    intro _ _ _ _ _ _ _ _ _ _ _ _ _ _ _ _ _ _
    unfold wX11_upLater
    repeat refine gS (by decide) ?_
    refine ⟨fun _ => ?_, ?_⟩
    · unfold wX11_upLoop
      refine gF (by decide) (m_isWhole e5 hfl (fun g => absurd g tx0) (fun _ => gT rfl ?_))
      rw [mFail_26, et, mFail_top]
      exact q
    · repeat refine gS (by decide) ?_
      intros; contradiction
theorem sv24_1 {so dl ln : Nat → Nat} {th us lm mk ch tl cl fl na s lim n a f m φ : Nat} {σ μ : Sg} {Q : Sg → Prop} (h : Vx so dl ln th us lm mk ch tl cl fl na s lim n a f 24 1 m φ σ μ) (kk : ∀ σ' μ', MR μ μ' → Rr φ σ' μ' → Q σ') : TC σ Q := by
  obtain ⟨⟨hB, hbd, hRA, hs, hW⟩, hE, h24, hcl, hfl, hC, hφ, m45, m26, m36, hV, hX⟩ := h
  have hC0 := hC
  obtain ⟨c8, c9, c3, c4, c5⟩ := hC0
  rw [show n + 1 - 1 = n by omega] at c9
  have hbd0 := hbd
  obtain ⟨g1, g2, g3, g4, g5, g6, g7, g8, g9, g10, g11⟩ := hbd0
  obtain ⟨ha, hf, hk32, hcap, hm, h22, x21, h23, x23, hk, h26, x28, -, hst⟩ := id hE
  have h22 : sI σ 22 n = nI a := h22
  have h23 : sI σ 23 n = nI f := h23
  have h26 : sI σ 26 n = nI m := h26
  have ha60 : a < 60 := Nat.lt_of_lt_of_le ha hRA.2.2.1
  obtain ⟨k', hk', hk1, r0, r1, r2, r3, r4, r5, r6, r7, r8, r9, r10, r11⟩ := hRA.2.2.2 a ha
  have ek : 24 = k' := eqN (hk.symm.trans hk1) (by omega) (by omega)
  subst ek
  have e1 : sI σ 6 3 = nI us := hB.2.2.2.2.2.2.1.1
  have e5 : sI μ 0 44 = nI fl := hB.2.2.2.2.2.2.2.1.2.2.2.2.2.1
  have hn : n < 200 := by omega
  have hcn := cnt_le (P := isCl σ μ) n
  have et : sI μ 0 26 - (1 : Int32) = nI n := subN (n + 1) 1 m26 rfl (by omega)
  have hvn : vp_in (nI n) 220 := vp_in_nI (by omega) (by decide)
  have hva : vp_in (nI a) 60 := vp_in_nI ha60 (by decide)
  have en : (nI n).toNatClampNeg = n := nI_clamp (by omega)
  have ea : (nI a).toNatClampNeg = a := nI_clamp (by omega)
  have ht0 : ¬ sI μ 0 26 = 0 := neN (n + 1) 0 m26 rfl (by omega) (by omega) (by decide)
  have hcl : Cn cl ch s (17 * (n + 1) + 15) σ μ n := hcl.no (by decide)
  have hc1 : cl = cnt (isCl σ μ) n := hcl.1
  have hc2 := hcl.2
  have hbdn : Bd th us lm mk ch tl cl s lim n := ⟨by omega, by omega, by omega, by omega, by omega, g6, g7, g8, g9, g10, g11⟩
  have hbdg : ∀ t : Int32, Bd th us lm mk ch tl cl s lim n ∧ Xv t us mk cl s n := fun t => ⟨hbdn, Xv.mk g1 (by omega)⟩
  obtain ⟨h27, p22, d1, d2, d3⟩ : sI σ 27 n = 0 ∧ sI μ 22 n = nI 1 ∧ (1 ≤ 1 → kpX 24 = true → V so dl th (sL σ 25 (3 * n)) (sI μ 24 n) (sI μ 25 n)) ∧ (2 ≤ 1 → V so dl th (sL σ 25 (3 * n + 1)) (sI μ 26 n) (sI μ 27 n)) ∧ (24 = 28 → 1 ≤ 1 → ∃ q, q < th ∧ so q = 7 ∧ sL σ 25 (3 * n) = pk 7 (nI (dl q)) ∧ sI μ 25 n = nI q) := by
    rcases hst with h | h
    · exact h
    · exact absurd h.1 (by decide)
  have e0 : sI σ 10 0 = nI lim := hB.2.2.2.2.2.2.2.1.2.2.2.2.2.2.1
  have e46 : sI μ 0 46 = nI lim := hB.2.2.2.2.2.2.2.1.2.2.2.2.2.2.2
  have c9' : sI σ 21 9 = nI (n + 1 - 1) := c9
  refine tc_after c3 hRA.1 hRA.2.2.1 c9 hn h22 ha r4 h24 (by omega) (by decide) ?_
  refine wk_sel hRA.1 hRA.2.2.1 c9 hn h22 ha r0 ?_ (by omega)
  refine ⟨fun q => absurd q (by decide), fun q => absurd q (by decide), fun q => absurd q (by decide), fun q => absurd q (by decide), fun q => absurd q (by decide), fun _ => ?_, fun q => absurd q (by decide), fun q => absurd q (by decide), fun q => absurd q (by decide), fun q => absurd q (by decide)⟩
  unfold wX6_loop wX6_askAgain
  refine c_stage c9 hn (gT h24 (c_act c9 hn ?_))
  rw [h22]
  refine c_takesStep hs e0 g10 g9 (fun hlt => ?_) (fun heq => ?_)
  · refine gF ne10 (c_setStage (t := n) c9 hn ?_)
    have hφ2 : 4 * (lim - (s + 1)) + 2 * (n + 1) + 1 ≤ φ := by
      clear hst r5 r6 r7 r8 r9 r10 r11 d1 d2 d3
      omega
    obtain ⟨p1, y, hy, p2⟩ := r5 (by decide)
    refine kk _ (mStart (wI (wI μ 0 45 (nI (s + 1))) 22 n 0) (sI μ 2 a) (nI f)) ?_ (Or.inr (Or.inl ?_))
    · refine ms_up m36 ht0 (fun K q => m_up m26 (by omega) x21 ha60 x23 hk (by omega) p22 (by omega) (fun h _ => absurd h (by decide)) (fun _ h => absurd h (by omega)) (fun _ _ => ?_))
      unfold wX11_upOf
      repeat refine gS (by decide) ?_
      intro _ _ _ _ _ _ _ _ _ _ _ _ _ _ _ _ _ _
      unfold wX11_upLater
      repeat refine gS (by decide) ?_
      refine ⟨fun _ => ?_, ?_⟩
      · unfold wX11_upLoop
        rw [m45, e46, nI_1, en, ea]
        exact gT rfl (gF (neN s lim rfl rfl (by omega) (by omega) (by omega)) ⟨hvn, hva, q⟩)
      · repeat refine gS (by decide) ?_
        intros; contradiction
    · have fm : Fm μ (mStart (wI (wI μ 0 45 (nI (s + 1))) 22 n 0) (sI μ 2 a) (nI f)) n := Fm.start ((Fm.rf.w1 (Or.inl ⟨rfl, by decide⟩)).w1 (Or.inr (Or.inr ⟨by decide, Nat.le_refl _⟩)))
      refine ⟨so, dl, ln, th, us, lm, mk, ch, tl, cl, fl, na, s + 1, lim, n, a, f, 24, 0, m, ⟨hB, ⟨by omega, by omega, by omega, by omega, by omega, g6, g7, g8, by omega, g10, g11⟩, hRA, rfl, fun i hi => ?_⟩, ?_, ?_, hfl, ⟨c8, c9', c3, c4, c5⟩, hφ2, Or.inl rfl, rfl, m26, rfl, ?_, rfl⟩
      · refine (hW i hi).frame (fun o h1 h2 => ?_) (fun w hw => rfl) (fun o h1 h2 => fm.2.2 o i h1 h2 hi) (fun _ => rfl) (Nat.le_refl _) (fun _ _ => rfl) (fun _ _ => rfl) (Nat.le_refl _)
        rw [sI_wI, if_neg (by omega), i_o (by omega)]
      · refine ent_mk (j' := 0) hE (by decide) rfl rfl rfl h27 ?_ rfl rfl rfl (fun _ => rfl) ?_ (Nat.le_refl _) (fun h => absurd h (by omega)) (fun h => absurd h (by omega)) (fun _ h => absurd h (by omega))
        · rw [i_e]; rfl
        · unfold mStart
          rw [i_o (by decide), i_o (by decide), i_o (by decide), i_e]; rfl
      · refine hcl.fr (by omega) (fun i hi => ?_) (fun i hi => ?_) (fun _ => ?_)
        · rfl
        · rw [sI_wI, if_neg (by omega), i_o (by omega)]
        · rfl
      · rfl
  · subst heq
    refine gT rfl ?_
    refine kk _ (wI (mGo μ 3 9 0 (nI a)) 0 26 (nI n)) (MR.tr (b := mGo μ 3 9 0 (nI a)) ?_ ?_) (Or.inr (Or.inr (Or.inr (Or.inr (Or.inl ?_)))))
    · refine ms_up m36 ht0 (fun K q => m_up m26 (by omega) x21 ha60 x23 hk (by omega) p22 (by omega) (fun h _ => absurd h (by decide)) (fun _ h => absurd h (by omega)) (fun _ _ => ?_))
      unfold wX11_upOf
      repeat refine gS (by decide) ?_
      intro _ _ _ _ _ _ _ _ _ _ _ _ _ _ _ _ _ _
      unfold wX11_upLater
      repeat refine gS (by decide) ?_
      refine ⟨fun _ => ?_, ?_⟩
      · unfold wX11_upLoop
        rw [m45, e46]
        exact gT rfl (gT rfl (m_finish q))
      · repeat refine gS (by decide) ?_
        intros; contradiction
    · refine ms_leave (a := a) rfl m26 (by omega) x21 ha60 (fun K q => ?_)
      have ek : sI (mGo μ 3 9 0 (nI a)) 1 a = nI 24 := hk
      rw [ek]
      exact m_leave_none (by omega) (by omega) (by omega) (by omega) q
    · exact ⟨so, dl, ln, th, us, lm, mk, ch, tl, cl, fl, na, s, s, n, 9, a, ⟨hB, hbd, hRA, hs, hW⟩, hcl.w (by omega), by omega, by omega, by omega, ⟨c8, c9', rfl, rfl, rfl⟩, by omega, ha, h22, hk, h24, m45, rfl, rfl, rfl, rfl, rfl⟩
