theorem svX {so dl ln : Nat → Nat} {th us lm mk ch tl cl fl na s lim n a f m φ : Nat} {σ μ : Sg} {Q : Sg → Prop} {k : Nat} (h : Vx so dl ln th us lm mk ch tl cl fl na s lim n a f k 0 m φ σ μ) (hx : isP2 k ∨ k = 16 ∨ k = 19) (hx2 : k ≠ 22) (kk : ∀ σ' μ', MR μ μ' → Rr φ σ' μ' → Q σ') : TC σ Q := by
  have hk25 : k ≠ 25 ∧ k ≠ 22 := ⟨by rintro rfl; exact absurd hx (by unfold isP2; omega), hx2⟩
  obtain ⟨⟨hB, hbd, hRA, hs, hW⟩, hE, h24, hcl, hfl, hC, hφ, m45, m26, m36, hV, hX⟩ := h
  have hC0 := hC
  obtain ⟨c8, c9, c3, c4, c5⟩ := hC0
  rw [show n + 1 - 1 = n by omega] at c9
  have hbd0 := hbd
  obtain ⟨g1, g2, g3, g4, g5, g6, g7, g8, g9, g10, g11⟩ := hbd0
  obtain ⟨ha, hf, hk32, hcap, hm, h22, x21, h23, x23, hk, h26, x28, -, hst⟩ := id hE
  have h22 : sI σ 22 n = nI a := h22
  have h23 : sI σ 23 n = nI f := h23
  have h26 : sI σ 26 n = nI m := h26
  have ha60 : a < 60 := Nat.lt_of_lt_of_le ha hRA.2.2.1
  obtain ⟨k', hk', hk1, r0, r1, r2, r3, r4, r5, r6, r7, r8, r9, r10, r11⟩ := hRA.2.2.2 a ha
  have ek : k = k' := eqN (hk.symm.trans hk1) (by omega) (by omega)
  subst ek
  have e1 : sI σ 6 3 = nI us := hB.2.2.2.2.2.2.1.1
  have e5 : sI μ 0 44 = nI fl := hB.2.2.2.2.2.2.2.1.2.2.2.2.2.1
  have hn : n < 200 := by omega
  have hcn := cnt_le (P := isCl σ μ) n
  have et : sI μ 0 26 - (1 : Int32) = nI n := subN (n + 1) 1 m26 rfl (by omega)
  have hvn : vp_in (nI n) 220 := vp_in_nI (by omega) (by decide)
  have hva : vp_in (nI a) 60 := vp_in_nI ha60 (by decide)
  have en : (nI n).toNatClampNeg = n := nI_clamp (by omega)
  have ea : (nI a).toNatClampNeg = a := nI_clamp (by omega)
  have ht0 : ¬ sI μ 0 26 = 0 := neN (n + 1) 0 m26 rfl (by omega) (by omega) (by decide)
  have hcl : Cn cl ch s (17 * (n + 1) + 15) σ μ n := hcl.no (fun h => hk25.1 h.1)
  have hc1 : cl = cnt (isCl σ μ) n := hcl.1
  have hc2 := hcl.2
  have hbdn : Bd th us lm mk ch tl cl s lim n := ⟨by omega, by omega, by omega, by omega, by omega, g6, g7, g8, g9, g10, g11⟩
  have hbdg : ∀ t : Int32, Bd th us lm mk ch tl cl s lim n ∧ Xv t us mk cl s n := fun t => ⟨hbdn, Xv.mk g1 (by omega)⟩
  obtain ⟨h27, p22, d1, d2, d3⟩ : sI σ 27 n = 0 ∧ sI μ 22 n = nI 0 ∧ (1 ≤ 0 → kpX k = true → V so dl th (sL σ 25 (3 * n)) (sI μ 24 n) (sI μ 25 n)) ∧ (2 ≤ 0 → V so dl th (sL σ 25 (3 * n + 1)) (sI μ 26 n) (sI μ 27 n)) ∧ (k = 28 → 1 ≤ 0 → ∃ q, q < th ∧ so q = 7 ∧ sL σ 25 (3 * n) = pk 7 (nI (dl q)) ∧ sI μ 25 n = nI q) := by
    rcases hst with h | h
    · exact h
    · exact absurd h.1 hk25.2
  obtain ⟨q1, q2, q3, q4, q5, q6⟩ : 1 < ahd k ∧ ahd k < 100 ∧ 1 < cap k ∧ 2 ≤ nps k ∧ ps1 k = 1 ∧ k ≠ 25 := by
    rcases hx with (h | h | h | h | h | h | h | h | h) | h | h
    all_goals first
      | exact absurd h hx2
      | (subst h; decide)
  obtain ⟨p1, y, hy, p2⟩ := r6 q4
  rw [q5] at p1 p2
  have p2' : sI μ 3 a = nI y := p2
  refine tc_part c3 hRA.1 hRA.2.2.1 c9 hn h22 ha r4 h24 q2 q1 ?_
  refine fin_part (μ' := mStart (mKX μ n) (sI μ 3 a) (nI f)) (j' := 1) (w := 1) (y := y) hW hRA hs hcl hfl hC hφ hB hbd Fc.rf ?_ (ent_mk (j' := 1) hE q3 rfl rfl rfl h27 h24 rfl rfl rfl (fun _ => rfl) ?_ (Nat.le_refl _) (fun _ _ => ?_) (fun h => absurd h (by omega)) (fun h => ?_)) (by omega) rfl (by omega) (p1.trans p2) (by omega) m45 m26 rfl p2' rfl (ms_up m36 ht0 (fun K q => m_up m26 (by omega) x21 ha60 x23 hk (by omega) p22 (by omega) (fun _ _ => q) (fun h _ => absurd h (by decide)) (fun h _ => absurd ⟨rfl, hx⟩ h))) kk
  · exact Fm.start (((Fm.rf.w1 (Or.inr (Or.inr ⟨by decide, Nat.le_refl _⟩))).w1 (Or.inr (Or.inr ⟨by decide, Nat.le_refl _⟩))).w1 (Or.inr (Or.inr ⟨by decide, Nat.le_refl _⟩)))
  · unfold mStart mKX
    rw [i_o (by decide), i_o (by decide), i_o (by decide), i_e]
    rfl
  · have x1 : sI (mStart (mKX μ n) (sI μ 3 a) (nI f)) 24 n = sI μ 0 39 := by simp [mStart, mKX, sI_wI]
    have x2 : sI (mStart (mKX μ n) (sI μ 3 a) (nI f)) 25 n = sI μ 0 40 := by simp [mStart, mKX, sI_wI]
    rw [x1, x2]
    exact hV
  · subst h
    exact absurd hx (by unfold isP2; omega)
theorem svY {so dl ln : Nat → Nat} {th us lm mk ch tl cl fl na s lim n a f m φ : Nat} {σ μ : Sg} {Q : Sg → Prop} {k : Nat} (h : Vx so dl ln th us lm mk ch tl cl fl na s lim n a f k 1 m φ σ μ) (hx : k = 16 ∨ k = 19) (kk : ∀ σ' μ', MR μ μ' → Rr φ σ' μ' → Q σ') : TC σ Q := by
  have hk25 : k ≠ 25 ∧ k ≠ 22 := by omega
  obtain ⟨⟨hB, hbd, hRA, hs, hW⟩, hE, h24, hcl, hfl, hC, hφ, m45, m26, m36, hV, hX⟩ := h
  have hC0 := hC
  obtain ⟨c8, c9, c3, c4, c5⟩ := hC0
  rw [show n + 1 - 1 = n by omega] at c9
  have hbd0 := hbd
  obtain ⟨g1, g2, g3, g4, g5, g6, g7, g8, g9, g10, g11⟩ := hbd0
  obtain ⟨ha, hf, hk32, hcap, hm, h22, x21, h23, x23, hk, h26, x28, -, hst⟩ := id hE
  have h22 : sI σ 22 n = nI a := h22
  have h23 : sI σ 23 n = nI f := h23
  have h26 : sI σ 26 n = nI m := h26
  have ha60 : a < 60 := Nat.lt_of_lt_of_le ha hRA.2.2.1
  obtain ⟨k', hk', hk1, r0, r1, r2, r3, r4, r5, r6, r7, r8, r9, r10, r11⟩ := hRA.2.2.2 a ha
  have ek : k = k' := eqN (hk.symm.trans hk1) (by omega) (by omega)
  subst ek
  have e1 : sI σ 6 3 = nI us := hB.2.2.2.2.2.2.1.1
  have e5 : sI μ 0 44 = nI fl := hB.2.2.2.2.2.2.2.1.2.2.2.2.2.1
  have hn : n < 200 := by omega
  have hcn := cnt_le (P := isCl σ μ) n
  have et : sI μ 0 26 - (1 : Int32) = nI n := subN (n + 1) 1 m26 rfl (by omega)
  have hvn : vp_in (nI n) 220 := vp_in_nI (by omega) (by decide)
  have hva : vp_in (nI a) 60 := vp_in_nI ha60 (by decide)
  have en : (nI n).toNatClampNeg = n := nI_clamp (by omega)
  have ea : (nI a).toNatClampNeg = a := nI_clamp (by omega)
  have ht0 : ¬ sI μ 0 26 = 0 := neN (n + 1) 0 m26 rfl (by omega) (by omega) (by decide)
  have hcl : Cn cl ch s (17 * (n + 1) + 15) σ μ n := hcl.no (fun h => hk25.1 h.1)
  have hc1 : cl = cnt (isCl σ μ) n := hcl.1
  have hc2 := hcl.2
  have hbdn : Bd th us lm mk ch tl cl s lim n := ⟨by omega, by omega, by omega, by omega, by omega, g6, g7, g8, g9, g10, g11⟩
  have hbdg : ∀ t : Int32, Bd th us lm mk ch tl cl s lim n ∧ Xv t us mk cl s n := fun t => ⟨hbdn, Xv.mk g1 (by omega)⟩
  obtain ⟨h27, p22, d1, d2, d3⟩ : sI σ 27 n = 0 ∧ sI μ 22 n = nI 1 ∧ (1 ≤ 1 → kpX k = true → V so dl th (sL σ 25 (3 * n)) (sI μ 24 n) (sI μ 25 n)) ∧ (2 ≤ 1 → V so dl th (sL σ 25 (3 * n + 1)) (sI μ 26 n) (sI μ 27 n)) ∧ (k = 28 → 1 ≤ 1 → ∃ q, q < th ∧ so q = 7 ∧ sL σ 25 (3 * n) = pk 7 (nI (dl q)) ∧ sI μ 25 n = nI q) := by
    rcases hst with h | h
    · exact h
    · exact absurd h.1 hk25.2
  obtain ⟨q1, q2, q3, q4, q5, q6, q7⟩ : 2 < ahd k ∧ ahd k < 100 ∧ 2 < cap k ∧ 3 ≤ nps k ∧ ps2 k = 2 ∧ k ≠ 25 ∧ kpX k = true := by
    rcases hx with h | h
    all_goals (subst h; decide)
  obtain ⟨p1, y, hy, p2⟩ := r7 q4
  rw [q5] at p1 p2
  have p2' : sI μ 4 a = nI y := p2
  refine tc_part c3 hRA.1 hRA.2.2.1 c9 hn h22 ha r4 h24 q2 q1 ?_
  refine fin_part (μ' := mStart (mKY μ n) (sI μ 4 a) (nI f)) (j' := 2) (w := 2) (y := y) hW hRA hs hcl hfl hC hφ hB hbd Fc.rf ?_ (ent_mk (j' := 2) hE q3 rfl rfl rfl h27 h24 rfl rfl rfl (fun _ => rfl) ?_ (Nat.le_refl _) (fun _ _ => d1 (by omega) q7) (fun h => ?_) (fun h => ?_)) (by omega) rfl (by omega) (p1.trans p2) (by omega) m45 m26 rfl p2' rfl (ms_up m36 ht0 (fun K q => m_up m26 (by omega) x21 ha60 x23 hk (by omega) p22 (by omega) (fun h _ => absurd h (by decide)) (fun _ _ => q) (fun _ h => absurd ⟨rfl, hx⟩ h))) kk
  · exact Fm.start (((Fm.rf.w1 (Or.inr (Or.inr ⟨by decide, Nat.le_refl _⟩))).w1 (Or.inr (Or.inr ⟨by decide, Nat.le_refl _⟩))).w1 (Or.inr (Or.inr ⟨by decide, Nat.le_refl _⟩)))
  · unfold mStart mKY
    rw [i_o (by decide), i_o (by decide), i_o (by decide), i_e]
    rfl
  · have x1 : sI (mStart (mKY μ n) (sI μ 4 a) (nI f)) 26 n = sI μ 0 39 := by simp [mStart, mKY, sI_wI]
    have x2 : sI (mStart (mKY μ n) (sI μ 4 a) (nI f)) 27 n = sI μ 0 40 := by simp [mStart, mKY, sI_wI]
    rw [x1, x2]
    exact hV
  · subst h
    exact absurd hx (by omega)
theorem sv3_1 {so dl ln : Nat → Nat} {th us lm mk ch tl cl fl na s lim n a f m φ : Nat} {σ μ : Sg} {Q : Sg → Prop} (h : Vx so dl ln th us lm mk ch tl cl fl na s lim n a f 3 1 m φ σ μ) (kk : ∀ σ' μ', MR μ μ' → Rr φ σ' μ' → Q σ') : TC σ Q := by
  obtain ⟨⟨hB, hbd, hRA, hs, hW⟩, hE, h24, hcl, hfl, hC, hφ, m45, m26, m36, hV, hX⟩ := h
  have hC0 := hC
  obtain ⟨c8, c9, c3, c4, c5⟩ := hC0
  rw [show n + 1 - 1 = n by omega] at c9
  have hbd0 := hbd
  obtain ⟨g1, g2, g3, g4, g5, g6, g7, g8, g9, g10, g11⟩ := hbd0
  obtain ⟨ha, hf, hk32, hcap, hm, h22, x21, h23, x23, hk, h26, x28, -, hst⟩ := id hE
  have h22 : sI σ 22 n = nI a := h22
  have h23 : sI σ 23 n = nI f := h23
  have h26 : sI σ 26 n = nI m := h26
  have ha60 : a < 60 := Nat.lt_of_lt_of_le ha hRA.2.2.1
  obtain ⟨k', hk', hk1, r0, r1, r2, r3, r4, r5, r6, r7, r8, r9, r10, r11⟩ := hRA.2.2.2 a ha
  have ek : 3 = k' := eqN (hk.symm.trans hk1) (by omega) (by omega)
  subst ek
  have e1 : sI σ 6 3 = nI us := hB.2.2.2.2.2.2.1.1
  have e5 : sI μ 0 44 = nI fl := hB.2.2.2.2.2.2.2.1.2.2.2.2.2.1
  have hn : n < 200 := by omega
  have hcn := cnt_le (P := isCl σ μ) n
  have et : sI μ 0 26 - (1 : Int32) = nI n := subN (n + 1) 1 m26 rfl (by omega)
  have hvn : vp_in (nI n) 220 := vp_in_nI (by omega) (by decide)
  have hva : vp_in (nI a) 60 := vp_in_nI ha60 (by decide)
  have en : (nI n).toNatClampNeg = n := nI_clamp (by omega)
  have ea : (nI a).toNatClampNeg = a := nI_clamp (by omega)
  have ht0 : ¬ sI μ 0 26 = 0 := neN (n + 1) 0 m26 rfl (by omega) (by omega) (by decide)
  have hcl : Cn cl ch s (17 * (n + 1) + 15) σ μ n := hcl.no (by decide)
  have hc1 : cl = cnt (isCl σ μ) n := hcl.1
  have hc2 := hcl.2
  have hbdn : Bd th us lm mk ch tl cl s lim n := ⟨by omega, by omega, by omega, by omega, by omega, g6, g7, g8, g9, g10, g11⟩
  have hbdg : ∀ t : Int32, Bd th us lm mk ch tl cl s lim n ∧ Xv t us mk cl s n := fun t => ⟨hbdn, Xv.mk g1 (by omega)⟩
  obtain ⟨h27, p22, d1, d2, d3⟩ : sI σ 27 n = 0 ∧ sI μ 22 n = nI 1 ∧ (1 ≤ 1 → kpX 3 = true → V so dl th (sL σ 25 (3 * n)) (sI μ 24 n) (sI μ 25 n)) ∧ (2 ≤ 1 → V so dl th (sL σ 25 (3 * n + 1)) (sI μ 26 n) (sI μ 27 n)) ∧ (3 = 28 → 1 ≤ 1 → ∃ q, q < th ∧ so q = 7 ∧ sL σ 25 (3 * n) = pk 7 (nI (dl q)) ∧ sI μ 25 n = nI q) := by
    rcases hst with h | h
    · exact h
    · exact absurd h.1 (by decide)
  refine sv_work (j := 2) c3 hRA c9 hn h22 ha r4 h24 (by omega) r0 hB (by omega) (fun lx ly _ _ Q' q => of_none (by simp) q) ?_
  refine wk_plain hRA.1 hRA.2.2.1 c9 hn h22 ha r0 (by omega) (by omega) (by omega) (by omega) (by omega) (by omega) (by omega) (by omega) (by omega) (by omega) (by omega) (wp_lo hRA.1 hRA.2.2.1 c9 hn h22 ha (by omega) ?_)
  unfold wX6_reckon
  refine c_number (c_number ?_)
  repeat refine gS (by decide) ?_
  refine ⟨fun _ => ?_, ?_⟩
  · refine fin_give (μ' := wI μ 0 26 (nI n)) hW hRA hs (hcl.w (by omega)) hfl hn hC hφ hB (hbdg _) Fc.rf Fm.rf.top (Nat.le_refl _) (fun _ _ => rfl) (fun _ _ => rfl) (Nat.le_refl _) m45 rfl m36 hV ?_ kk
    refine ms_up m36 ht0 (fun K q => m_up m26 (by omega) x21 ha60 x23 hk (by omega) p22 (by omega) (fun h _ => absurd h (by decide)) (fun _ h => absurd h (by omega)) (fun _ _ => ?_))
    unfold wX11_upOf
    repeat refine gS (by decide) ?_
    refine ⟨fun _ => ?_, ?_⟩
    · rw [et]
      exact q
    · repeat refine gS (by decide) ?_
      intros; contradiction
  · repeat refine gS (by decide) ?_
    intros; contradiction
theorem sv4_0 {so dl ln : Nat → Nat} {th us lm mk ch tl cl fl na s lim n a f m φ : Nat} {σ μ : Sg} {Q : Sg → Prop} (h : Vx so dl ln th us lm mk ch tl cl fl na s lim n a f 4 0 m φ σ μ) (kk : ∀ σ' μ', MR μ μ' → Rr φ σ' μ' → Q σ') : TC σ Q := by
  obtain ⟨⟨hB, hbd, hRA, hs, hW⟩, hE, h24, hcl, hfl, hC, hφ, m45, m26, m36, hV, hX⟩ := h
  have hC0 := hC
  obtain ⟨c8, c9, c3, c4, c5⟩ := hC0
  rw [show n + 1 - 1 = n by omega] at c9
  have hbd0 := hbd
  obtain ⟨g1, g2, g3, g4, g5, g6, g7, g8, g9, g10, g11⟩ := hbd0
  obtain ⟨ha, hf, hk32, hcap, hm, h22, x21, h23, x23, hk, h26, x28, -, hst⟩ := id hE
  have h22 : sI σ 22 n = nI a := h22
  have h23 : sI σ 23 n = nI f := h23
  have h26 : sI σ 26 n = nI m := h26
  have ha60 : a < 60 := Nat.lt_of_lt_of_le ha hRA.2.2.1
  obtain ⟨k', hk', hk1, r0, r1, r2, r3, r4, r5, r6, r7, r8, r9, r10, r11⟩ := hRA.2.2.2 a ha
  have ek : 4 = k' := eqN (hk.symm.trans hk1) (by omega) (by omega)
  subst ek
  have e1 : sI σ 6 3 = nI us := hB.2.2.2.2.2.2.1.1
  have e5 : sI μ 0 44 = nI fl := hB.2.2.2.2.2.2.2.1.2.2.2.2.2.1
  have hn : n < 200 := by omega
  have hcn := cnt_le (P := isCl σ μ) n
  have et : sI μ 0 26 - (1 : Int32) = nI n := subN (n + 1) 1 m26 rfl (by omega)
  have hvn : vp_in (nI n) 220 := vp_in_nI (by omega) (by decide)
  have hva : vp_in (nI a) 60 := vp_in_nI ha60 (by decide)
  have en : (nI n).toNatClampNeg = n := nI_clamp (by omega)
  have ea : (nI a).toNatClampNeg = a := nI_clamp (by omega)
  have ht0 : ¬ sI μ 0 26 = 0 := neN (n + 1) 0 m26 rfl (by omega) (by omega) (by decide)
  have hcl : Cn cl ch s (17 * (n + 1) + 15) σ μ n := hcl.no (by decide)
  have hc1 : cl = cnt (isCl σ μ) n := hcl.1
  have hc2 := hcl.2
  have hbdn : Bd th us lm mk ch tl cl s lim n := ⟨by omega, by omega, by omega, by omega, by omega, g6, g7, g8, g9, g10, g11⟩
  have hbdg : ∀ t : Int32, Bd th us lm mk ch tl cl s lim n ∧ Xv t us mk cl s n := fun t => ⟨hbdn, Xv.mk g1 (by omega)⟩
  obtain ⟨h27, p22, d1, d2, d3⟩ : sI σ 27 n = 0 ∧ sI μ 22 n = nI 0 ∧ (1 ≤ 0 → kpX 4 = true → V so dl th (sL σ 25 (3 * n)) (sI μ 24 n) (sI μ 25 n)) ∧ (2 ≤ 0 → V so dl th (sL σ 25 (3 * n + 1)) (sI μ 26 n) (sI μ 27 n)) ∧ (4 = 28 → 1 ≤ 0 → ∃ q, q < th ∧ so q = 7 ∧ sL σ 25 (3 * n) = pk 7 (nI (dl q)) ∧ sI μ 25 n = nI q) := by
    rcases hst with h | h
    · exact h
    · exact absurd h.1 (by decide)
  rw [Nat.add_zero] at hV
  refine sv_work (j := 1) c3 hRA c9 hn h22 ha r4 h24 (by omega) r0 hB (by omega) (fun lx ly _ _ Q' q => of_none (by simp) q) ?_
  refine wk_sel hRA.1 hRA.2.2.1 c9 hn h22 ha r0 ?_ (by omega)
  refine ⟨fun _ => ?_, fun q => absurd q (by decide), fun q => absurd q (by decide), fun q => absurd q (by decide), fun q => absurd q (by decide), fun q => absurd q (by decide), fun q => absurd q (by decide), fun q => absurd q (by decide), fun q => absurd q (by decide), fun q => absurd q (by decide)⟩
  obtain ⟨z, hz8, hz⟩ := r9 rfl
  obtain ⟨p1, y, hy, p2⟩ := r6 (by decide)
  have p2' : sI μ 4 a = nI y := p2
  unfold wX6_keep
  refine c_stage c9 hn (gT h24 (c_frame c9 hn (c_act c9 hn ?_)))
  rw [h22, h23]
  refine c_given hRA.1 hRA.2.2.1 ha (w := 2) rfl (by omega) (c_value (w := 0) c9 hn rfl (by omega) ?_)
  rw [Nat.add_zero, r2, hz]
  refine c_fwrite hB.2.2.2.2.2.2.1.2.2.2.1 (by omega) hf rfl hz8 ?_
  refine fin_part (μ' := mStart (wI (wI (wI μ 13 (8 * f + z) (sI μ 0 39)) 14 (8 * f + z) (sI μ 0 40)) 22 n 1) (sI μ 4 a) (nI f)) (j' := 1) (w := 1) (y := y) hW hRA hs hcl hfl hC hφ (Bs.slot hB hV) hbd (Fc.rf.w2 (by decide)) ?_ (ent_mk (j' := 1) hE (by decide) rfl rfl rfl h27 h24 rfl rfl rfl (fun _ => rfl) ?_ (Nat.le_refl _) (fun _ h => absurd h (by decide)) (fun h => absurd h (by omega)) (fun h => absurd h (by omega))) (by omega) rfl (by omega) (p1.trans p2) (by omega) m45 m26 rfl p2' rfl ?_ kk
  · exact Fm.start (((Fm.rf.w1 (Or.inr (Or.inl (by decide)))).w1 (Or.inr (Or.inl (by decide)))).w1 (Or.inr (Or.inr ⟨by decide, Nat.le_refl _⟩)))
  · unfold mStart
    rw [i_o (by decide), i_o (by decide), i_o (by decide), i_e]
    rfl
  · have ez : ((8 : Int32) * nI f) + sI μ 3 a = nI (8 * f + z) := addN (8 * f) z (mulN 8 f rfl rfl) hz
    have hvz : vp_in (nI (8 * f + z)) 1760 := vp_in_nI (by omega) (by decide)
    have ezc : (nI (8 * f + z)).toNatClampNeg = 8 * f + z := nI_clamp (by omega)
    refine ms_up m36 ht0 (fun K q => m_up m26 (by omega) x21 ha60 x23 hk (by omega) p22 (by omega) (fun _ h => absurd h (by unfold isP2; omega)) (fun h _ => absurd h (by decide)) (fun _ _ => ?_))
    unfold wX11_upOf
    repeat refine gS (by decide) ?_
    refine ⟨fun _ => ?_, ?_⟩
    · refine gT rfl ?_
      rw [ea, ez, ezc, en]
      exact ⟨hva, hvz, hva, hvz, hvn, hva, q⟩
    · repeat refine gS (by decide) ?_
      intros; contradiction
theorem sv4_1 {so dl ln : Nat → Nat} {th us lm mk ch tl cl fl na s lim n a f m φ : Nat} {σ μ : Sg} {Q : Sg → Prop} (h : Vx so dl ln th us lm mk ch tl cl fl na s lim n a f 4 1 m φ σ μ) (kk : ∀ σ' μ', MR μ μ' → Rr φ σ' μ' → Q σ') : TC σ Q := by
  obtain ⟨⟨hB, hbd, hRA, hs, hW⟩, hE, h24, hcl, hfl, hC, hφ, m45, m26, m36, hV, hX⟩ := h
  have hC0 := hC
  obtain ⟨c8, c9, c3, c4, c5⟩ := hC0
  rw [show n + 1 - 1 = n by omega] at c9
  have hbd0 := hbd
  obtain ⟨g1, g2, g3, g4, g5, g6, g7, g8, g9, g10, g11⟩ := hbd0
  obtain ⟨ha, hf, hk32, hcap, hm, h22, x21, h23, x23, hk, h26, x28, -, hst⟩ := id hE
  have h22 : sI σ 22 n = nI a := h22
  have h23 : sI σ 23 n = nI f := h23
  have h26 : sI σ 26 n = nI m := h26
  have ha60 : a < 60 := Nat.lt_of_lt_of_le ha hRA.2.2.1
  obtain ⟨k', hk', hk1, r0, r1, r2, r3, r4, r5, r6, r7, r8, r9, r10, r11⟩ := hRA.2.2.2 a ha
  have ek : 4 = k' := eqN (hk.symm.trans hk1) (by omega) (by omega)
  subst ek
  have e1 : sI σ 6 3 = nI us := hB.2.2.2.2.2.2.1.1
  have e5 : sI μ 0 44 = nI fl := hB.2.2.2.2.2.2.2.1.2.2.2.2.2.1
  have hn : n < 200 := by omega
  have hcn := cnt_le (P := isCl σ μ) n
  have et : sI μ 0 26 - (1 : Int32) = nI n := subN (n + 1) 1 m26 rfl (by omega)
  have hvn : vp_in (nI n) 220 := vp_in_nI (by omega) (by decide)
  have hva : vp_in (nI a) 60 := vp_in_nI ha60 (by decide)
  have en : (nI n).toNatClampNeg = n := nI_clamp (by omega)
  have ea : (nI a).toNatClampNeg = a := nI_clamp (by omega)
  have ht0 : ¬ sI μ 0 26 = 0 := neN (n + 1) 0 m26 rfl (by omega) (by omega) (by decide)
  have hcl : Cn cl ch s (17 * (n + 1) + 15) σ μ n := hcl.no (by decide)
  have hc1 : cl = cnt (isCl σ μ) n := hcl.1
  have hc2 := hcl.2
  have hbdn : Bd th us lm mk ch tl cl s lim n := ⟨by omega, by omega, by omega, by omega, by omega, g6, g7, g8, g9, g10, g11⟩
  have hbdg : ∀ t : Int32, Bd th us lm mk ch tl cl s lim n ∧ Xv t us mk cl s n := fun t => ⟨hbdn, Xv.mk g1 (by omega)⟩
  obtain ⟨h27, p22, d1, d2, d3⟩ : sI σ 27 n = 0 ∧ sI μ 22 n = nI 1 ∧ (1 ≤ 1 → kpX 4 = true → V so dl th (sL σ 25 (3 * n)) (sI μ 24 n) (sI μ 25 n)) ∧ (2 ≤ 1 → V so dl th (sL σ 25 (3 * n + 1)) (sI μ 26 n) (sI μ 27 n)) ∧ (4 = 28 → 1 ≤ 1 → ∃ q, q < th ∧ so q = 7 ∧ sL σ 25 (3 * n) = pk 7 (nI (dl q)) ∧ sI μ 25 n = nI q) := by
    rcases hst with h | h
    · exact h
    · exact absurd h.1 (by decide)
  refine tc_after c3 hRA.1 hRA.2.2.1 c9 hn h22 ha r4 h24 (by omega) (by decide) ?_
  refine wk_sel hRA.1 hRA.2.2.1 c9 hn h22 ha r0 ?_ (by omega)
  refine ⟨fun _ => ?_, fun q => absurd q (by decide), fun q => absurd q (by decide), fun q => absurd q (by decide), fun q => absurd q (by decide), fun q => absurd q (by decide), fun q => absurd q (by decide), fun q => absurd q (by decide), fun q => absurd q (by decide), fun q => absurd q (by decide)⟩
  unfold wX6_keep
  refine c_stage c9 hn (gF (by rw [h24]; decide) (c_value (w := 1) c9 hn rfl (by omega) ?_))
  refine fin_give (μ' := wI μ 0 26 (nI n)) hW hRA hs (hcl.w (by omega)) hfl hn hC hφ hB (hbdg _) Fc.rf Fm.rf.top (Nat.le_refl _) (fun _ _ => rfl) (fun _ _ => rfl) (Nat.le_refl _) m45 rfl m36 hV ?_ kk
  refine ms_up m36 ht0 (fun K q => m_up m26 (by omega) x21 ha60 x23 hk (by omega) p22 (by omega) (fun h _ => absurd h (by decide)) (fun _ h => absurd h (by omega)) (fun _ _ => ?_))
  unfold wX11_upOf
  repeat refine gS (by decide) ?_
  refine ⟨fun _ => ?_, ?_⟩
  · refine gF (by decide) ?_
    rw [et]
    exact q
  · repeat refine gS (by decide) ?_
    intros; contradiction
theorem sv5_1 {so dl ln : Nat → Nat} {th us lm mk ch tl cl fl na s lim n a f m φ : Nat} {σ μ : Sg} {Q : Sg → Prop} (h : Vx so dl ln th us lm mk ch tl cl fl na s lim n a f 5 1 m φ σ μ) (kk : ∀ σ' μ', MR μ μ' → Rr φ σ' μ' → Q σ') : TC σ Q := by
  obtain ⟨⟨hB, hbd, hRA, hs, hW⟩, hE, h24, hcl, hfl, hC, hφ, m45, m26, m36, hV, hX⟩ := h
  have hC0 := hC
  obtain ⟨c8, c9, c3, c4, c5⟩ := hC0
  rw [show n + 1 - 1 = n by omega] at c9
  have hbd0 := hbd
  obtain ⟨g1, g2, g3, g4, g5, g6, g7, g8, g9, g10, g11⟩ := hbd0
  obtain ⟨ha, hf, hk32, hcap, hm, h22, x21, h23, x23, hk, h26, x28, -, hst⟩ := id hE
  have h22 : sI σ 22 n = nI a := h22
  have h23 : sI σ 23 n = nI f := h23
  have h26 : sI σ 26 n = nI m := h26
  have ha60 : a < 60 := Nat.lt_of_lt_of_le ha hRA.2.2.1
  obtain ⟨k', hk', hk1, r0, r1, r2, r3, r4, r5, r6, r7, r8, r9, r10, r11⟩ := hRA.2.2.2 a ha
  have ek : 5 = k' := eqN (hk.symm.trans hk1) (by omega) (by omega)
  subst ek
  have e1 : sI σ 6 3 = nI us := hB.2.2.2.2.2.2.1.1
  have e5 : sI μ 0 44 = nI fl := hB.2.2.2.2.2.2.2.1.2.2.2.2.2.1
  have hn : n < 200 := by omega
  have hcn := cnt_le (P := isCl σ μ) n
  have et : sI μ 0 26 - (1 : Int32) = nI n := subN (n + 1) 1 m26 rfl (by omega)
  have hvn : vp_in (nI n) 220 := vp_in_nI (by omega) (by decide)
  have hva : vp_in (nI a) 60 := vp_in_nI ha60 (by decide)
  have en : (nI n).toNatClampNeg = n := nI_clamp (by omega)
  have ea : (nI a).toNatClampNeg = a := nI_clamp (by omega)
  have ht0 : ¬ sI μ 0 26 = 0 := neN (n + 1) 0 m26 rfl (by omega) (by omega) (by decide)
  have hcl : Cn cl ch s (17 * (n + 1) + 15) σ μ n := hcl.no (by decide)
  have hc1 : cl = cnt (isCl σ μ) n := hcl.1
  have hc2 := hcl.2
  have hbdn : Bd th us lm mk ch tl cl s lim n := ⟨by omega, by omega, by omega, by omega, by omega, g6, g7, g8, g9, g10, g11⟩
  have hbdg : ∀ t : Int32, Bd th us lm mk ch tl cl s lim n ∧ Xv t us mk cl s n := fun t => ⟨hbdn, Xv.mk g1 (by omega)⟩
  obtain ⟨h27, p22, d1, d2, d3⟩ : sI σ 27 n = 0 ∧ sI μ 22 n = nI 1 ∧ (1 ≤ 1 → kpX 5 = true → V so dl th (sL σ 25 (3 * n)) (sI μ 24 n) (sI μ 25 n)) ∧ (2 ≤ 1 → V so dl th (sL σ 25 (3 * n + 1)) (sI μ 26 n) (sI μ 27 n)) ∧ (5 = 28 → 1 ≤ 1 → ∃ q, q < th ∧ so q = 7 ∧ sL σ 25 (3 * n) = pk 7 (nI (dl q)) ∧ sI μ 25 n = nI q) := by
    rcases hst with h | h
    · exact h
    · exact absurd h.1 (by decide)
  have dX := d1 (by decide) (by decide)
  by_cases tx0 : sI μ 24 n = 0
  · by_cases ty0 : sI μ 0 39 = 0
    · have eX : nbr (sL σ 25 (3 * n)) = sI μ 25 n := dX.num tx0
      have eY : nbr (sL σ 25 (3 * n + 1)) = sI μ 0 40 := hV.num ty0
      refine sv_work (j := 2) c3 hRA c9 hn h22 ha r4 h24 (by omega) r0 hB (by omega) (fun lx ly _ _ Q' q => of_w2 (by omega) ?_) ?_
      · rw [dX.fwt, hV.fwt, tx0, ty0]; exact q
      · refine wk_plain hRA.1 hRA.2.2.1 c9 hn h22 ha r0 (by omega) (by omega) (by omega) (by omega) (by omega) (by omega) (by omega) (by omega) (by omega) (by omega) (by omega) (wp_lo hRA.1 hRA.2.2.1 c9 hn h22 ha (by omega) ?_)
        unfold wX6_reckon
        refine c_number (c_number ?_)
        repeat refine gS (by decide) ?_
        refine ⟨fun _ => ?_, ?_⟩
        · refine c_whole ?_
          rw [eX, eY]
          refine fin_give (μ' := mVal (wI μ 0 26 (nI n)) 0 (rk 5 (sI μ 25 n) (sI μ 0 40))) hW hRA hs (hcl.w (by omega)) hfl hn hC hφ hB (hbdg _) Fc.rf Fm.rf.top.val (Nat.le_refl _) (fun _ _ => rfl) (fun _ _ => rfl) (Nat.le_refl _) m45 rfl rfl (V.w _) ?_ kk
          refine ms_up m36 ht0 (fun K q => m_up m26 (by omega) x21 ha60 x23 hk (by omega) p22 (by omega) (fun h _ => absurd h (by decide)) (fun _ h => absurd h (by omega)) (fun _ _ => ?_))
          unfold wX11_upOf
          repeat refine gS (by decide) ?_
          refine ⟨fun _ => ?_, ?_⟩
          · unfold wX11_upOf_180
            rw [et, en]
            exact ⟨hvn, hvn, m_rk (kd := 5) e5 hfl (by omega) tx0 ty0 (fun h => absurd h (by decide)) q⟩
          · repeat refine gS (by decide) ?_
            intros; contradiction
        · repeat refine gS (by decide) ?_
          intros; contradiction
    · obtain ⟨e, he1, he8, he7, hee⟩ := ft_e ty0
      refine sv_fail (j := 2) (e := e) (r := ft (sI μ 0 39)) (c := ft (sI μ 0 39)) c3 hRA c9 hn h22 ha r4 h24 (by omega) r0 hB hbdn hW hs (hcl.w (by omega)) hfl hC hφ m45 (by omega) hee he1 he8 (fun lx ly _ _ Q' q => of_w2 (by omega) ?_) (if_neg (ft_7 ty0)) ?_ kk
      · rw [dX.fwt, hV.fwt, tx0, ft_0, f1_m rfl (ft_n0 ty0)]
        exact q
      · rw [← hee]
        refine ms_up m36 ht0 (fun K q => m_up m26 (by omega) x21 ha60 x23 hk (by omega) p22 (by omega) (fun h _ => absurd h (by decide)) (fun _ h => absurd h (by omega)) (fun _ _ => ?_))
        unfold wX11_upOf
        repeat refine gS (by decide) ?_
        refine ⟨fun _ => ?_, ?_⟩
        · unfold wX11_upOf_180
          rw [et, en]
          exact ⟨hvn, hvn, m_rk_y e5 hfl (by decide) tx0 ty0 q⟩
        · repeat refine gS (by decide) ?_
          intros; contradiction
  · obtain ⟨e, he1, he8, he7, hee⟩ := ft_e tx0
    refine sv_fail (j := 2) (e := e) (r := ft (sI μ 24 n)) (c := ft (sI μ 24 n)) c3 hRA c9 hn h22 ha r4 h24 (by omega) r0 hB hbdn hW hs (hcl.w (by omega)) hfl hC hφ m45 (by omega) hee he1 he8 (fun lx ly _ _ Q' q => of_w2 (by omega) ?_) (if_neg (ft_7 tx0)) ?_ kk
    · rw [dX.fwt, f1_n (ft_n0 tx0)]
      exact q
    · rw [← hee]
      refine ms_up m36 ht0 (fun K q => m_up m26 (by omega) x21 ha60 x23 hk (by omega) p22 (by omega) (fun h _ => absurd h (by decide)) (fun _ h => absurd h (by omega)) (fun _ _ => ?_))
      unfold wX11_upOf
      repeat refine gS (by decide) ?_
      refine ⟨fun _ => ?_, ?_⟩
      · unfold wX11_upOf_180
        rw [et, en]
        exact ⟨hvn, hvn, m_rk_x e5 hfl (by decide) tx0 q⟩
      · repeat refine gS (by decide) ?_
        intros; contradiction
theorem sv6_1 {so dl ln : Nat → Nat} {th us lm mk ch tl cl fl na s lim n a f m φ : Nat} {σ μ : Sg} {Q : Sg → Prop} (h : Vx so dl ln th us lm mk ch tl cl fl na s lim n a f 6 1 m φ σ μ) (kk : ∀ σ' μ', MR μ μ' → Rr φ σ' μ' → Q σ') : TC σ Q := by
  obtain ⟨⟨hB, hbd, hRA, hs, hW⟩, hE, h24, hcl, hfl, hC, hφ, m45, m26, m36, hV, hX⟩ := h
  have hC0 := hC
  obtain ⟨c8, c9, c3, c4, c5⟩ := hC0
  rw [show n + 1 - 1 = n by omega] at c9
  have hbd0 := hbd
  obtain ⟨g1, g2, g3, g4, g5, g6, g7, g8, g9, g10, g11⟩ := hbd0
  obtain ⟨ha, hf, hk32, hcap, hm, h22, x21, h23, x23, hk, h26, x28, -, hst⟩ := id hE
  have h22 : sI σ 22 n = nI a := h22
  have h23 : sI σ 23 n = nI f := h23
  have h26 : sI σ 26 n = nI m := h26
  have ha60 : a < 60 := Nat.lt_of_lt_of_le ha hRA.2.2.1
  obtain ⟨k', hk', hk1, r0, r1, r2, r3, r4, r5, r6, r7, r8, r9, r10, r11⟩ := hRA.2.2.2 a ha
  have ek : 6 = k' := eqN (hk.symm.trans hk1) (by omega) (by omega)
  subst ek
  have e1 : sI σ 6 3 = nI us := hB.2.2.2.2.2.2.1.1
  have e5 : sI μ 0 44 = nI fl := hB.2.2.2.2.2.2.2.1.2.2.2.2.2.1
  have hn : n < 200 := by omega
  have hcn := cnt_le (P := isCl σ μ) n
  have et : sI μ 0 26 - (1 : Int32) = nI n := subN (n + 1) 1 m26 rfl (by omega)
  have hvn : vp_in (nI n) 220 := vp_in_nI (by omega) (by decide)
  have hva : vp_in (nI a) 60 := vp_in_nI ha60 (by decide)
  have en : (nI n).toNatClampNeg = n := nI_clamp (by omega)
  have ea : (nI a).toNatClampNeg = a := nI_clamp (by omega)
  have ht0 : ¬ sI μ 0 26 = 0 := neN (n + 1) 0 m26 rfl (by omega) (by omega) (by decide)
  have hcl : Cn cl ch s (17 * (n + 1) + 15) σ μ n := hcl.no (by decide)
  have hc1 : cl = cnt (isCl σ μ) n := hcl.1
  have hc2 := hcl.2
  have hbdn : Bd th us lm mk ch tl cl s lim n := ⟨by omega, by omega, by omega, by omega, by omega, g6, g7, g8, g9, g10, g11⟩
  have hbdg : ∀ t : Int32, Bd th us lm mk ch tl cl s lim n ∧ Xv t us mk cl s n := fun t => ⟨hbdn, Xv.mk g1 (by omega)⟩
  obtain ⟨h27, p22, d1, d2, d3⟩ : sI σ 27 n = 0 ∧ sI μ 22 n = nI 1 ∧ (1 ≤ 1 → kpX 6 = true → V so dl th (sL σ 25 (3 * n)) (sI μ 24 n) (sI μ 25 n)) ∧ (2 ≤ 1 → V so dl th (sL σ 25 (3 * n + 1)) (sI μ 26 n) (sI μ 27 n)) ∧ (6 = 28 → 1 ≤ 1 → ∃ q, q < th ∧ so q = 7 ∧ sL σ 25 (3 * n) = pk 7 (nI (dl q)) ∧ sI μ 25 n = nI q) := by
    rcases hst with h | h
    · exact h
    · exact absurd h.1 (by decide)
  have dX := d1 (by decide) (by decide)
  by_cases tx0 : sI μ 24 n = 0
  · by_cases ty0 : sI μ 0 39 = 0
    · have eX : nbr (sL σ 25 (3 * n)) = sI μ 25 n := dX.num tx0
      have eY : nbr (sL σ 25 (3 * n + 1)) = sI μ 0 40 := hV.num ty0
      refine sv_work (j := 2) c3 hRA c9 hn h22 ha r4 h24 (by omega) r0 hB (by omega) (fun lx ly _ _ Q' q => of_w2 (by omega) ?_) ?_
      · rw [dX.fwt, hV.fwt, tx0, ty0]; exact q
      · refine wk_plain hRA.1 hRA.2.2.1 c9 hn h22 ha r0 (by omega) (by omega) (by omega) (by omega) (by omega) (by omega) (by omega) (by omega) (by omega) (by omega) (by omega) (wp_lo hRA.1 hRA.2.2.1 c9 hn h22 ha (by omega) ?_)
        unfold wX6_reckon
        refine c_number (c_number ?_)
        repeat refine gS (by decide) ?_
        refine ⟨fun _ => ?_, ?_⟩
        · refine c_whole ?_
          rw [eX, eY]
          refine fin_give (μ' := mVal (wI μ 0 26 (nI n)) 0 (rk 6 (sI μ 25 n) (sI μ 0 40))) hW hRA hs (hcl.w (by omega)) hfl hn hC hφ hB (hbdg _) Fc.rf Fm.rf.top.val (Nat.le_refl _) (fun _ _ => rfl) (fun _ _ => rfl) (Nat.le_refl _) m45 rfl rfl (V.w _) ?_ kk
          refine ms_up m36 ht0 (fun K q => m_up m26 (by omega) x21 ha60 x23 hk (by omega) p22 (by omega) (fun h _ => absurd h (by decide)) (fun _ h => absurd h (by omega)) (fun _ _ => ?_))
          unfold wX11_upOf
          repeat refine gS (by decide) ?_
          refine ⟨fun _ => ?_, ?_⟩
          · unfold wX11_upOf_180
            rw [et, en]
            exact ⟨hvn, hvn, m_rk (kd := 6) e5 hfl (by omega) tx0 ty0 (fun h => absurd h (by decide)) q⟩
          · repeat refine gS (by decide) ?_
            intros; contradiction
        · repeat refine gS (by decide) ?_
          intros; contradiction
    · obtain ⟨e, he1, he8, he7, hee⟩ := ft_e ty0
      refine sv_fail (j := 2) (e := e) (r := ft (sI μ 0 39)) (c := ft (sI μ 0 39)) c3 hRA c9 hn h22 ha r4 h24 (by omega) r0 hB hbdn hW hs (hcl.w (by omega)) hfl hC hφ m45 (by omega) hee he1 he8 (fun lx ly _ _ Q' q => of_w2 (by omega) ?_) (if_neg (ft_7 ty0)) ?_ kk
      · rw [dX.fwt, hV.fwt, tx0, ft_0, f1_m rfl (ft_n0 ty0)]
        exact q
      · rw [← hee]
        refine ms_up m36 ht0 (fun K q => m_up m26 (by omega) x21 ha60 x23 hk (by omega) p22 (by omega) (fun h _ => absurd h (by decide)) (fun _ h => absurd h (by omega)) (fun _ _ => ?_))
        unfold wX11_upOf
        repeat refine gS (by decide) ?_
        refine ⟨fun _ => ?_, ?_⟩
        · unfold wX11_upOf_180
          rw [et, en]
          exact ⟨hvn, hvn, m_rk_y e5 hfl (by decide) tx0 ty0 q⟩
        · repeat refine gS (by decide) ?_
          intros; contradiction
  · obtain ⟨e, he1, he8, he7, hee⟩ := ft_e tx0
    refine sv_fail (j := 2) (e := e) (r := ft (sI μ 24 n)) (c := ft (sI μ 24 n)) c3 hRA c9 hn h22 ha r4 h24 (by omega) r0 hB hbdn hW hs (hcl.w (by omega)) hfl hC hφ m45 (by omega) hee he1 he8 (fun lx ly _ _ Q' q => of_w2 (by omega) ?_) (if_neg (ft_7 tx0)) ?_ kk
    · rw [dX.fwt, f1_n (ft_n0 tx0)]
      exact q
    · rw [← hee]
      refine ms_up m36 ht0 (fun K q => m_up m26 (by omega) x21 ha60 x23 hk (by omega) p22 (by omega) (fun h _ => absurd h (by decide)) (fun _ h => absurd h (by omega)) (fun _ _ => ?_))
      unfold wX11_upOf
      repeat refine gS (by decide) ?_
      refine ⟨fun _ => ?_, ?_⟩
      · unfold wX11_upOf_180
        rw [et, en]
        exact ⟨hvn, hvn, m_rk_x e5 hfl (by decide) tx0 q⟩
      · repeat refine gS (by decide) ?_
        intros; contradiction
theorem sv7_1 {so dl ln : Nat → Nat} {th us lm mk ch tl cl fl na s lim n a f m φ : Nat} {σ μ : Sg} {Q : Sg → Prop} (h : Vx so dl ln th us lm mk ch tl cl fl na s lim n a f 7 1 m φ σ μ) (kk : ∀ σ' μ', MR μ μ' → Rr φ σ' μ' → Q σ') : TC σ Q := by
  obtain ⟨⟨hB, hbd, hRA, hs, hW⟩, hE, h24, hcl, hfl, hC, hφ, m45, m26, m36, hV, hX⟩ := h
  have hC0 := hC
  obtain ⟨c8, c9, c3, c4, c5⟩ := hC0
  rw [show n + 1 - 1 = n by omega] at c9
  have hbd0 := hbd
  obtain ⟨g1, g2, g3, g4, g5, g6, g7, g8, g9, g10, g11⟩ := hbd0
  obtain ⟨ha, hf, hk32, hcap, hm, h22, x21, h23, x23, hk, h26, x28, -, hst⟩ := id hE
  have h22 : sI σ 22 n = nI a := h22
  have h23 : sI σ 23 n = nI f := h23
  have h26 : sI σ 26 n = nI m := h26
  have ha60 : a < 60 := Nat.lt_of_lt_of_le ha hRA.2.2.1
  obtain ⟨k', hk', hk1, r0, r1, r2, r3, r4, r5, r6, r7, r8, r9, r10, r11⟩ := hRA.2.2.2 a ha
  have ek : 7 = k' := eqN (hk.symm.trans hk1) (by omega) (by omega)
  subst ek
  have e1 : sI σ 6 3 = nI us := hB.2.2.2.2.2.2.1.1
  have e5 : sI μ 0 44 = nI fl := hB.2.2.2.2.2.2.2.1.2.2.2.2.2.1
  have hn : n < 200 := by omega
  have hcn := cnt_le (P := isCl σ μ) n
  have et : sI μ 0 26 - (1 : Int32) = nI n := subN (n + 1) 1 m26 rfl (by omega)
  have hvn : vp_in (nI n) 220 := vp_in_nI (by omega) (by decide)
  have hva : vp_in (nI a) 60 := vp_in_nI ha60 (by decide)
  have en : (nI n).toNatClampNeg = n := nI_clamp (by omega)
  have ea : (nI a).toNatClampNeg = a := nI_clamp (by omega)
  have ht0 : ¬ sI μ 0 26 = 0 := neN (n + 1) 0 m26 rfl (by omega) (by omega) (by decide)
  have hcl : Cn cl ch s (17 * (n + 1) + 15) σ μ n := hcl.no (by decide)
  have hc1 : cl = cnt (isCl σ μ) n := hcl.1
  have hc2 := hcl.2
  have hbdn : Bd th us lm mk ch tl cl s lim n := ⟨by omega, by omega, by omega, by omega, by omega, g6, g7, g8, g9, g10, g11⟩
  have hbdg : ∀ t : Int32, Bd th us lm mk ch tl cl s lim n ∧ Xv t us mk cl s n := fun t => ⟨hbdn, Xv.mk g1 (by omega)⟩
  obtain ⟨h27, p22, d1, d2, d3⟩ : sI σ 27 n = 0 ∧ sI μ 22 n = nI 1 ∧ (1 ≤ 1 → kpX 7 = true → V so dl th (sL σ 25 (3 * n)) (sI μ 24 n) (sI μ 25 n)) ∧ (2 ≤ 1 → V so dl th (sL σ 25 (3 * n + 1)) (sI μ 26 n) (sI μ 27 n)) ∧ (7 = 28 → 1 ≤ 1 → ∃ q, q < th ∧ so q = 7 ∧ sL σ 25 (3 * n) = pk 7 (nI (dl q)) ∧ sI μ 25 n = nI q) := by
    rcases hst with h | h
    · exact h
    · exact absurd h.1 (by decide)
  have dX := d1 (by decide) (by decide)
  by_cases tx0 : sI μ 24 n = 0
  · by_cases ty0 : sI μ 0 39 = 0
    · have eX : nbr (sL σ 25 (3 * n)) = sI μ 25 n := dX.num tx0
      have eY : nbr (sL σ 25 (3 * n + 1)) = sI μ 0 40 := hV.num ty0
      by_cases z0 : sI μ 0 40 = 0
      · refine sv_fail (j := 2) (e := 6) (r := 6) (c := 6) c3 hRA c9 hn h22 ha r4 h24 (by omega) r0 hB hbdn hW hs (hcl.w (by omega)) hfl hC hφ m45 (by omega) rfl (by omega) (by omega) (fun lx ly _ _ Q' q => of_7 ?_) rfl ?_ kk
        · rw [dX.fwt, hV.fwt, tx0, ty0, eY, if_pos z0]; exact q
        · refine ms_up m36 ht0 (fun K q => m_up m26 (by omega) x21 ha60 x23 hk (by omega) p22 (by omega) (fun h _ => absurd h (by decide)) (fun _ h => absurd h (by omega)) (fun _ _ => ?_))
          unfold wX11_upOf
          repeat refine gS (by decide) ?_
          refine ⟨fun _ => ?_, ?_⟩
          · unfold wX11_upOf_180
            rw [et, en]
            exact ⟨hvn, hvn, m_rk_z e5 hfl rfl tx0 ty0 z0 q⟩
          · repeat refine gS (by decide) ?_
            intros; contradiction
      · refine sv_work (j := 2) c3 hRA c9 hn h22 ha r4 h24 (by omega) r0 hB (by omega) (fun lx ly _ _ Q' q => of_7 ?_) ?_
        · rw [dX.fwt, hV.fwt, tx0, ty0, eY, if_neg z0]; exact q
        · refine wk_plain hRA.1 hRA.2.2.1 c9 hn h22 ha r0 (by omega) (by omega) (by omega) (by omega) (by omega) (by omega) (by omega) (by omega) (by omega) (by omega) (by omega) (wp_lo hRA.1 hRA.2.2.1 c9 hn h22 ha (by omega) ?_)
          unfold wX6_reckon
          refine c_number (c_number ?_)
          repeat refine gS (by decide) ?_
          refine ⟨fun _ => ?_, ?_⟩
          · rw [eY]
            refine gF z0 ⟨z0, c_whole ?_⟩
            rw [eX]
            refine fin_give (μ' := mVal (wI μ 0 26 (nI n)) 0 (rk 7 (sI μ 25 n) (sI μ 0 40))) hW hRA hs (hcl.w (by omega)) hfl hn hC hφ hB (hbdg _) Fc.rf Fm.rf.top.val (Nat.le_refl _) (fun _ _ => rfl) (fun _ _ => rfl) (Nat.le_refl _) m45 rfl rfl (V.w _) ?_ kk
            refine ms_up m36 ht0 (fun K q => m_up m26 (by omega) x21 ha60 x23 hk (by omega) p22 (by omega) (fun h _ => absurd h (by decide)) (fun _ h => absurd h (by omega)) (fun _ _ => ?_))
            unfold wX11_upOf
            repeat refine gS (by decide) ?_
            refine ⟨fun _ => ?_, ?_⟩
            · unfold wX11_upOf_180
              rw [et, en]
              exact ⟨hvn, hvn, m_rk (kd := 7) e5 hfl (by omega) tx0 ty0 (fun _ => z0) q⟩
            · repeat refine gS (by decide) ?_
              intros; contradiction
          · repeat refine gS (by decide) ?_
            intros; contradiction
    · obtain ⟨e, he1, he8, he7, hee⟩ := ft_e ty0
      refine sv_fail (j := 2) (e := e) (r := ft (sI μ 0 39)) (c := ft (sI μ 0 39)) c3 hRA c9 hn h22 ha r4 h24 (by omega) r0 hB hbdn hW hs (hcl.w (by omega)) hfl hC hφ m45 (by omega) hee he1 he8 (fun lx ly _ _ Q' q => of_7 ?_) (if_neg (ft_7 ty0)) ?_ kk
      · rw [dX.fwt, hV.fwt, tx0, ft_0, f1_m rfl (ft_n0 ty0)]
        exact q
      · rw [← hee]
        refine ms_up m36 ht0 (fun K q => m_up m26 (by omega) x21 ha60 x23 hk (by omega) p22 (by omega) (fun h _ => absurd h (by decide)) (fun _ h => absurd h (by omega)) (fun _ _ => ?_))
        unfold wX11_upOf
        repeat refine gS (by decide) ?_
        refine ⟨fun _ => ?_, ?_⟩
        · unfold wX11_upOf_180
          rw [et, en]
          exact ⟨hvn, hvn, m_rk_y e5 hfl (by decide) tx0 ty0 q⟩
        · repeat refine gS (by decide) ?_
          intros; contradiction
  · obtain ⟨e, he1, he8, he7, hee⟩ := ft_e tx0
    refine sv_fail (j := 2) (e := e) (r := ft (sI μ 24 n)) (c := ft (sI μ 24 n)) c3 hRA c9 hn h22 ha r4 h24 (by omega) r0 hB hbdn hW hs (hcl.w (by omega)) hfl hC hφ m45 (by omega) hee he1 he8 (fun lx ly _ _ Q' q => of_7 ?_) (if_neg (ft_7 tx0)) ?_ kk
    · rw [dX.fwt, f1_n (ft_n0 tx0)]
      exact q
    · rw [← hee]
      refine ms_up m36 ht0 (fun K q => m_up m26 (by omega) x21 ha60 x23 hk (by omega) p22 (by omega) (fun h _ => absurd h (by decide)) (fun _ h => absurd h (by omega)) (fun _ _ => ?_))
      unfold wX11_upOf
      repeat refine gS (by decide) ?_
      refine ⟨fun _ => ?_, ?_⟩
      · unfold wX11_upOf_180
        rw [et, en]
        exact ⟨hvn, hvn, m_rk_x e5 hfl (by decide) tx0 q⟩
      · repeat refine gS (by decide) ?_
        intros; contradiction
theorem sv8_1 {so dl ln : Nat → Nat} {th us lm mk ch tl cl fl na s lim n a f m φ : Nat} {σ μ : Sg} {Q : Sg → Prop} (h : Vx so dl ln th us lm mk ch tl cl fl na s lim n a f 8 1 m φ σ μ) (kk : ∀ σ' μ', MR μ μ' → Rr φ σ' μ' → Q σ') : TC σ Q := by
  obtain ⟨⟨hB, hbd, hRA, hs, hW⟩, hE, h24, hcl, hfl, hC, hφ, m45, m26, m36, hV, hX⟩ := h
  have hC0 := hC
  obtain ⟨c8, c9, c3, c4, c5⟩ := hC0
  rw [show n + 1 - 1 = n by omega] at c9
  have hbd0 := hbd
  obtain ⟨g1, g2, g3, g4, g5, g6, g7, g8, g9, g10, g11⟩ := hbd0
  obtain ⟨ha, hf, hk32, hcap, hm, h22, x21, h23, x23, hk, h26, x28, -, hst⟩ := id hE
  have h22 : sI σ 22 n = nI a := h22
  have h23 : sI σ 23 n = nI f := h23
  have h26 : sI σ 26 n = nI m := h26
  have ha60 : a < 60 := Nat.lt_of_lt_of_le ha hRA.2.2.1
  obtain ⟨k', hk', hk1, r0, r1, r2, r3, r4, r5, r6, r7, r8, r9, r10, r11⟩ := hRA.2.2.2 a ha
  have ek : 8 = k' := eqN (hk.symm.trans hk1) (by omega) (by omega)
  subst ek
  have e1 : sI σ 6 3 = nI us := hB.2.2.2.2.2.2.1.1
  have e5 : sI μ 0 44 = nI fl := hB.2.2.2.2.2.2.2.1.2.2.2.2.2.1
  have hn : n < 200 := by omega
  have hcn := cnt_le (P := isCl σ μ) n
  have et : sI μ 0 26 - (1 : Int32) = nI n := subN (n + 1) 1 m26 rfl (by omega)
  have hvn : vp_in (nI n) 220 := vp_in_nI (by omega) (by decide)
  have hva : vp_in (nI a) 60 := vp_in_nI ha60 (by decide)
  have en : (nI n).toNatClampNeg = n := nI_clamp (by omega)
  have ea : (nI a).toNatClampNeg = a := nI_clamp (by omega)
  have ht0 : ¬ sI μ 0 26 = 0 := neN (n + 1) 0 m26 rfl (by omega) (by omega) (by decide)
  have hcl : Cn cl ch s (17 * (n + 1) + 15) σ μ n := hcl.no (by decide)
  have hc1 : cl = cnt (isCl σ μ) n := hcl.1
  have hc2 := hcl.2
  have hbdn : Bd th us lm mk ch tl cl s lim n := ⟨by omega, by omega, by omega, by omega, by omega, g6, g7, g8, g9, g10, g11⟩
  have hbdg : ∀ t : Int32, Bd th us lm mk ch tl cl s lim n ∧ Xv t us mk cl s n := fun t => ⟨hbdn, Xv.mk g1 (by omega)⟩
  obtain ⟨h27, p22, d1, d2, d3⟩ : sI σ 27 n = 0 ∧ sI μ 22 n = nI 1 ∧ (1 ≤ 1 → kpX 8 = true → V so dl th (sL σ 25 (3 * n)) (sI μ 24 n) (sI μ 25 n)) ∧ (2 ≤ 1 → V so dl th (sL σ 25 (3 * n + 1)) (sI μ 26 n) (sI μ 27 n)) ∧ (8 = 28 → 1 ≤ 1 → ∃ q, q < th ∧ so q = 7 ∧ sL σ 25 (3 * n) = pk 7 (nI (dl q)) ∧ sI μ 25 n = nI q) := by
    rcases hst with h | h
    · exact h
    · exact absurd h.1 (by decide)
  have dX := d1 (by decide) (by decide)
  by_cases tx0 : sI μ 24 n = 0
  · by_cases ty0 : sI μ 0 39 = 0
    · have eX : nbr (sL σ 25 (3 * n)) = sI μ 25 n := dX.num tx0
      have eY : nbr (sL σ 25 (3 * n + 1)) = sI μ 0 40 := hV.num ty0
      refine sv_work (j := 2) c3 hRA c9 hn h22 ha r4 h24 (by omega) r0 hB (by omega) (fun lx ly _ _ Q' q => of_w2 (by omega) ?_) ?_
      · rw [dX.fwt, hV.fwt, tx0, ty0]; exact q
      · refine wk_plain hRA.1 hRA.2.2.1 c9 hn h22 ha r0 (by omega) (by omega) (by omega) (by omega) (by omega) (by omega) (by omega) (by omega) (by omega) (by omega) (by omega) (wp_lo hRA.1 hRA.2.2.1 c9 hn h22 ha (by omega) ?_)
        unfold wX6_reckon
        refine c_number (c_number ?_)
        repeat refine gS (by decide) ?_
        refine ⟨fun _ => ?_, ?_⟩
        · unfold wX6_reckon_142 wX9_truth
          rw [eX, eY]
          by_cases g : sI μ 25 n < sI μ 0 40
          · refine gT g (gF ne10 ?_)
            rw [pk_01]
            refine fin_give (μ' := mVal (wI μ 0 26 (nI n)) 0 1) hW hRA hs (hcl.w (by omega)) hfl hn hC hφ hB (hbdg _) Fc.rf Fm.rf.top.val (Nat.le_refl _) (fun _ _ => rfl) (fun _ _ => rfl) (Nat.le_refl _) m45 rfl rfl (V.w _) ?_ kk
            refine ms_up m36 ht0 (fun K q => m_up m26 (by omega) x21 ha60 x23 hk (by omega) p22 (by omega) (fun h _ => absurd h (by decide)) (fun _ h => absurd h (by omega)) (fun _ _ => ?_))
            unfold wX11_upOf
            repeat refine gS (by decide) ?_
            refine ⟨fun _ => ?_, ?_⟩
            · unfold wX11_upOf_180
              rw [et, en]
              exact ⟨hvn, hvn, m_rk (kd := 8) e5 hfl (by omega) tx0 ty0 (fun h => absurd h (by decide)) (by rw [show rk 8 (sI μ 25 n) (sI (wI μ 0 26 (nI n)) 0 40) = 1 from if_pos g]; exact q)⟩
            · repeat refine gS (by decide) ?_
              intros; contradiction
          · refine gF g (gT rfl ?_)
            rw [pk_00]
            refine fin_give (μ' := mVal (wI μ 0 26 (nI n)) 0 0) hW hRA hs (hcl.w (by omega)) hfl hn hC hφ hB (hbdg _) Fc.rf Fm.rf.top.val (Nat.le_refl _) (fun _ _ => rfl) (fun _ _ => rfl) (Nat.le_refl _) m45 rfl rfl (V.w _) ?_ kk
            refine ms_up m36 ht0 (fun K q => m_up m26 (by omega) x21 ha60 x23 hk (by omega) p22 (by omega) (fun h _ => absurd h (by decide)) (fun _ h => absurd h (by omega)) (fun _ _ => ?_))
            unfold wX11_upOf
            repeat refine gS (by decide) ?_
            refine ⟨fun _ => ?_, ?_⟩
            · unfold wX11_upOf_180
              rw [et, en]
              exact ⟨hvn, hvn, m_rk (kd := 8) e5 hfl (by omega) tx0 ty0 (fun h => absurd h (by decide)) (by rw [show rk 8 (sI μ 25 n) (sI (wI μ 0 26 (nI n)) 0 40) = 0 from if_neg g]; exact q)⟩
            · repeat refine gS (by decide) ?_
              intros; contradiction
        · repeat refine gS (by decide) ?_
          intros; contradiction
    · obtain ⟨e, he1, he8, he7, hee⟩ := ft_e ty0
      refine sv_fail (j := 2) (e := e) (r := ft (sI μ 0 39)) (c := ft (sI μ 0 39)) c3 hRA c9 hn h22 ha r4 h24 (by omega) r0 hB hbdn hW hs (hcl.w (by omega)) hfl hC hφ m45 (by omega) hee he1 he8 (fun lx ly _ _ Q' q => of_w2 (by omega) ?_) (if_neg (ft_7 ty0)) ?_ kk
      · rw [dX.fwt, hV.fwt, tx0, ft_0, f1_m rfl (ft_n0 ty0)]
        exact q
      · rw [← hee]
        refine ms_up m36 ht0 (fun K q => m_up m26 (by omega) x21 ha60 x23 hk (by omega) p22 (by omega) (fun h _ => absurd h (by decide)) (fun _ h => absurd h (by omega)) (fun _ _ => ?_))
        unfold wX11_upOf
        repeat refine gS (by decide) ?_
        refine ⟨fun _ => ?_, ?_⟩
        · unfold wX11_upOf_180
          rw [et, en]
          exact ⟨hvn, hvn, m_rk_y e5 hfl (by decide) tx0 ty0 q⟩
        · repeat refine gS (by decide) ?_
          intros; contradiction
  · obtain ⟨e, he1, he8, he7, hee⟩ := ft_e tx0
    refine sv_fail (j := 2) (e := e) (r := ft (sI μ 24 n)) (c := ft (sI μ 24 n)) c3 hRA c9 hn h22 ha r4 h24 (by omega) r0 hB hbdn hW hs (hcl.w (by omega)) hfl hC hφ m45 (by omega) hee he1 he8 (fun lx ly _ _ Q' q => of_w2 (by omega) ?_) (if_neg (ft_7 tx0)) ?_ kk
    · rw [dX.fwt, f1_n (ft_n0 tx0)]
      exact q
    · rw [← hee]
      refine ms_up m36 ht0 (fun K q => m_up m26 (by omega) x21 ha60 x23 hk (by omega) p22 (by omega) (fun h _ => absurd h (by decide)) (fun _ h => absurd h (by omega)) (fun _ _ => ?_))
      unfold wX11_upOf
      repeat refine gS (by decide) ?_
      refine ⟨fun _ => ?_, ?_⟩
      · unfold wX11_upOf_180
        rw [et, en]
        exact ⟨hvn, hvn, m_rk_x e5 hfl (by decide) tx0 q⟩
      · repeat refine gS (by decide) ?_
        intros; contradiction
theorem sv9_1 {so dl ln : Nat → Nat} {th us lm mk ch tl cl fl na s lim n a f m φ : Nat} {σ μ : Sg} {Q : Sg → Prop} (h : Vx so dl ln th us lm mk ch tl cl fl na s lim n a f 9 1 m φ σ μ) (kk : ∀ σ' μ', MR μ μ' → Rr φ σ' μ' → Q σ') : TC σ Q := by
  obtain ⟨⟨hB, hbd, hRA, hs, hW⟩, hE, h24, hcl, hfl, hC, hφ, m45, m26, m36, hV, hX⟩ := h
  have hC0 := hC
  obtain ⟨c8, c9, c3, c4, c5⟩ := hC0
  rw [show n + 1 - 1 = n by omega] at c9
  have hbd0 := hbd
  obtain ⟨g1, g2, g3, g4, g5, g6, g7, g8, g9, g10, g11⟩ := hbd0
  obtain ⟨ha, hf, hk32, hcap, hm, h22, x21, h23, x23, hk, h26, x28, -, hst⟩ := id hE
  have h22 : sI σ 22 n = nI a := h22
  have h23 : sI σ 23 n = nI f := h23
  have h26 : sI σ 26 n = nI m := h26
  have ha60 : a < 60 := Nat.lt_of_lt_of_le ha hRA.2.2.1
  obtain ⟨k', hk', hk1, r0, r1, r2, r3, r4, r5, r6, r7, r8, r9, r10, r11⟩ := hRA.2.2.2 a ha
  have ek : 9 = k' := eqN (hk.symm.trans hk1) (by omega) (by omega)
  subst ek
  have e1 : sI σ 6 3 = nI us := hB.2.2.2.2.2.2.1.1
  have e5 : sI μ 0 44 = nI fl := hB.2.2.2.2.2.2.2.1.2.2.2.2.2.1
  have hn : n < 200 := by omega
  have hcn := cnt_le (P := isCl σ μ) n
  have et : sI μ 0 26 - (1 : Int32) = nI n := subN (n + 1) 1 m26 rfl (by omega)
  have hvn : vp_in (nI n) 220 := vp_in_nI (by omega) (by decide)
  have hva : vp_in (nI a) 60 := vp_in_nI ha60 (by decide)
  have en : (nI n).toNatClampNeg = n := nI_clamp (by omega)
  have ea : (nI a).toNatClampNeg = a := nI_clamp (by omega)
  have ht0 : ¬ sI μ 0 26 = 0 := neN (n + 1) 0 m26 rfl (by omega) (by omega) (by decide)
  have hcl : Cn cl ch s (17 * (n + 1) + 15) σ μ n := hcl.no (by decide)
  have hc1 : cl = cnt (isCl σ μ) n := hcl.1
  have hc2 := hcl.2
  have hbdn : Bd th us lm mk ch tl cl s lim n := ⟨by omega, by omega, by omega, by omega, by omega, g6, g7, g8, g9, g10, g11⟩
  have hbdg : ∀ t : Int32, Bd th us lm mk ch tl cl s lim n ∧ Xv t us mk cl s n := fun t => ⟨hbdn, Xv.mk g1 (by omega)⟩
  obtain ⟨h27, p22, d1, d2, d3⟩ : sI σ 27 n = 0 ∧ sI μ 22 n = nI 1 ∧ (1 ≤ 1 → kpX 9 = true → V so dl th (sL σ 25 (3 * n)) (sI μ 24 n) (sI μ 25 n)) ∧ (2 ≤ 1 → V so dl th (sL σ 25 (3 * n + 1)) (sI μ 26 n) (sI μ 27 n)) ∧ (9 = 28 → 1 ≤ 1 → ∃ q, q < th ∧ so q = 7 ∧ sL σ 25 (3 * n) = pk 7 (nI (dl q)) ∧ sI μ 25 n = nI q) := by
    rcases hst with h | h
    · exact h
    · exact absurd h.1 (by decide)
  have dX := d1 (by decide) (by decide)
  refine sv_work (j := 2) c3 hRA c9 hn h22 ha r4 h24 (by omega) r0 hB (by omega) (fun lx ly _ _ Q' q => of_none (by simp) q) ?_
  refine wk_plain hRA.1 hRA.2.2.1 c9 hn h22 ha r0 (by omega) (by omega) (by omega) (by omega) (by omega) (by omega) (by omega) (by omega) (by omega) (by omega) (by omega) (wp_lo hRA.1 hRA.2.2.1 c9 hn h22 ha (by omega) ?_)
  unfold wX6_reckon
  refine c_number (c_number ?_)
  repeat refine gS (by decide) ?_
  refine ⟨fun _ => ?_, ?_⟩
  · unfold wX6_reckon_158 wX9_truth
    have ec := V.eq hB.1.inj (hB.dlb (by omega) (by omega)) (by omega) dX hV
    by_cases g : sL σ 25 (3 * n) = sL σ 25 (3 * n + 1)
    · refine gT (cmp0.mpr g) (gF ne10 ?_)
      rw [pk_01]
      refine fin_give (μ' := mVal (wI μ 0 26 (nI n)) 0 1) hW hRA hs (hcl.w (by omega)) hfl hn hC hφ hB (hbdg _) Fc.rf Fm.rf.top.val (Nat.le_refl _) (fun _ _ => rfl) (fun _ _ => rfl) (Nat.le_refl _) m45 rfl rfl (V.w _) ?_ kk
      refine ms_up m36 ht0 (fun K q => m_up m26 (by omega) x21 ha60 x23 hk (by omega) p22 (by omega) (fun h _ => absurd h (by decide)) (fun _ h => absurd h (by omega)) (fun _ _ => ?_))
      unfold wX11_upOf
      repeat refine gS (by decide) ?_
      refine ⟨fun _ => ?_, ?_⟩
      · unfold wX11_upOf_180
        rw [et, en]
        exact ⟨hvn, hvn, m_rk_9 (fun _ => q) (fun h => absurd (ec.mp g) h)⟩
      · repeat refine gS (by decide) ?_
        intros; contradiction
    · refine gF (fun h => g (cmp0.mp h)) (gT rfl ?_)
      rw [pk_00]
      refine fin_give (μ' := mVal (wI μ 0 26 (nI n)) 0 0) hW hRA hs (hcl.w (by omega)) hfl hn hC hφ hB (hbdg _) Fc.rf Fm.rf.top.val (Nat.le_refl _) (fun _ _ => rfl) (fun _ _ => rfl) (Nat.le_refl _) m45 rfl rfl (V.w _) ?_ kk
      refine ms_up m36 ht0 (fun K q => m_up m26 (by omega) x21 ha60 x23 hk (by omega) p22 (by omega) (fun h _ => absurd h (by decide)) (fun _ h => absurd h (by omega)) (fun _ _ => ?_))
      unfold wX11_upOf
      repeat refine gS (by decide) ?_
      refine ⟨fun _ => ?_, ?_⟩
      · unfold wX11_upOf_180
        rw [et, en]
        exact ⟨hvn, hvn, m_rk_9 (fun h => absurd (ec.mpr h) g) (fun _ => q)⟩
      · repeat refine gS (by decide) ?_
        intros; contradiction
  · repeat refine gS (by decide) ?_
    intros; contradiction
