theorem svX {so dl ln : Nat → Nat} {th us lm mk ch tl cl fl na s lim n a f m φ : Nat} {σ μ : Sg} {Q : Sg → Prop} {k : Nat} (h : Vx so dl ln th us lm mk ch tl cl fl na s lim n a f k 0 m φ σ μ) (hx : isP2 k ∨ k = 16 ∨ k = 19) (hx2 : k ≠ 22) (kk : ∀ σ' μ', MR μ μ' → Rr φ σ' μ' → Q σ') : TC σ Q := by
  obtain ⟨⟨hB, hbd, hRA, hs, hW⟩, hE, h24, hcl, hfl, hC, hφ, m45, m26, m36, hV⟩ := h
  have hC0 := hC
  obtain ⟨c8, c9, c3, c4, c5⟩ := hC0
  rw [show n + 1 - 1 = n by omega] at c9
  have hbd0 := hbd
  obtain ⟨g1, g2, g3, g4, g5, g6, g7, g8, g9, g10, g11⟩ := hbd0
  obtain ⟨ha, hf, hk32, hcap, hm, h22, x21, h23, x23, hk, h26, x28, -, hst⟩ := id hE
  have h22 : sI σ 22 n = nI a := h22
  have h23 : sI σ 23 n = nI f := h23
  have h26 : sI σ 26 n = nI m := h26
  have ha60 : a < 60 := Nat.lt_of_lt_of_le ha hRA.2.2.1
  obtain ⟨k', hk', hk1, r0, r1, r2, r3, r4, r5, r6, r7, r8, r9, r10, r11⟩ := hRA.2.2.2 a ha
  have ek : k = k' := eqN (hk.symm.trans hk1) (by omega) (by omega)
  subst ek
  have e1 : sI σ 6 3 = nI us := hB.2.2.2.2.2.2.1.1
  have e5 : sI μ 0 44 = nI fl := hB.2.2.2.2.2.2.2.1.2.2.2.2.2.1
  have hn : n < 200 := by omega
  have hcn := cnt_le (P := isCl σ μ) n
  have et : sI μ 0 26 - (1 : Int32) = nI n := subN (n + 1) 1 m26 rfl (by omega)
  have hvn : vp_in (nI n) 220 := vp_in_nI (by omega) (by decide)
  have hva : vp_in (nI a) 60 := vp_in_nI ha60 (by decide)
  have en : (nI n).toNatClampNeg = n := nI_clamp (by omega)
  have ea : (nI a).toNatClampNeg = a := nI_clamp (by omega)
  have ht0 : ¬ sI μ 0 26 = 0 := neN (n + 1) 0 m26 rfl (by omega) (by omega) (by decide)
  have hcl : cl = cnt (isCl σ μ) n := by rw [hcl, if_neg (by omega)]; rfl
  have hbdn : Bd th us lm mk ch tl cl s lim n := ⟨by omega, by omega, by omega, by omega, by omega, g6, g7, g8, g9, g10, g11⟩
  obtain ⟨h27, p22, d1, d2, d3⟩ : sI σ 27 n = 0 ∧ sI μ 22 n = nI 0 ∧ (1 ≤ 0 → kpX k = true → V so dl th (sL σ 25 (3 * n)) (sI μ 24 n) (sI μ 25 n)) ∧ (2 ≤ 0 → V so dl th (sL σ 25 (3 * n + 1)) (sI μ 26 n) (sI μ 27 n)) ∧ (k = 28 → 1 ≤ 0 → ∃ q, q < th ∧ so q = 7 ∧ sL σ 25 (3 * n) = pk 7 (nI (dl q)) ∧ sI μ 25 n = nI q) := by
    rcases hst with h | h
    · exact h
    · omega
  obtain ⟨q1, q2, q3, q4, q5, q6⟩ : 1 < ahd k ∧ ahd k < 100 ∧ 1 < cap k ∧ 2 ≤ nps k ∧ ps1 k = 1 ∧ k ≠ 25 := by
    rcases hx with (h | h | h | h | h | h | h | h | h) | h | h
    all_goals first
      | exact absurd h hx2
      | (subst h; decide)
  obtain ⟨p1, y, hy, p2⟩ := r6 q4
  rw [q5] at p1 p2
  have p2' : sI μ 3 a = nI y := p2
  refine tc_part c3 hRA.1 hRA.2.2.1 c9 hn h22 ha r4 h24 q2 q1 ?_
  refine fin_part (μ' := mStart (mKX μ n) (sI μ 3 a) (nI f)) (j' := 1) (w := 1) (y := y) hW hRA hs hcl hfl hC hφ hB hbd Fc.rf ?_ (ent_mk (j' := 1) hE q3 rfl rfl rfl h27 h24 rfl rfl rfl (fun _ => rfl) ?_ (Nat.le_refl _) (fun _ _ => ?_) (fun h => absurd h (by omega)) (fun h => ?_)) (by omega) rfl (by omega) (p1.trans p2) (by omega) m45 m26 rfl p2' rfl (ms_up m36 ht0 (fun K q => m_up m26 (by omega) x21 ha60 x23 hk (by omega) p22 (by omega) (fun _ _ => q) (fun h _ => absurd h (by decide)) (fun h _ => absurd ⟨rfl, hx⟩ h))) kk
  · exact Fm.start (((Fm.rf.w1 (Or.inr (Or.inr ⟨by decide, Nat.le_refl _⟩))).w1 (Or.inr (Or.inr ⟨by decide, Nat.le_refl _⟩))).w1 (Or.inr (Or.inr ⟨by decide, Nat.le_refl _⟩)))
  · unfold mStart mKX
    rw [i_o (by decide), i_o (by decide), i_o (by decide), i_e]
    rfl
  · have x1 : sI (mStart (mKX μ n) (sI μ 3 a) (nI f)) 24 n = sI μ 0 39 := by simp [mStart, mKX, sI_wI]
    have x2 : sI (mStart (mKX μ n) (sI μ 3 a) (nI f)) 25 n = sI μ 0 40 := by simp [mStart, mKX, sI_wI]
    rw [x1, x2]
    exact hV
  · subst h
    exact absurd hx (by unfold isP2; omega)
