theorem simJ {φ : Nat} {σ μ : Sg} {Q : Sg → Prop} (h : StJ (φ + 1) σ μ) (kk : ∀ σ' μ', MR μ μ' → Rr φ σ' μ' → Q σ') : TC σ Q := by
  obtain ⟨so, dl, ln, th, us, lm, mk, ch, tl, cl, fl, na, s, lim, n, q, a, ⟨hB, hbd, hRA, hs, hW⟩, hcl, q9, q12, hfl, ⟨c8, c9, c3, -, -⟩, hφ, ha, h22, hk, h24, m45, m26, m36, m41, m42, m43⟩ := h
  rw [show n + 1 - 1 = n by omega] at c9
  obtain ⟨g1, g2, g3, g4, g5, g6, g7, g8, g9, g10, g11⟩ := hbd
  obtain ⟨k', hk', hk1, r0, -⟩ := hRA.2.2.2 a ha
  have ek : 24 = k' := eqN (hk.symm.trans hk1) (by omega) (by omega)
  subst ek
  refine tc_leave (neN q 0 c3 rfl (by omega) (by omega) (by decide)) ?_
  refine cl_rest (j := 2) (k := 24) (q := q) hRA.1 hRA.2.2.1 c9 (by omega) h22 ha r0 (by omega) h24 (by omega) c3 (by omega) (by omega) (fun h => absurd h (by omega)) (fun h => absurd h (by omega)) ?_
  refine cl_pop c9 (by omega) (by omega) _ (fun h => absurd h.1 (by decide)) (fun h => absurd h.1 (by decide)) (by decide) ?_
  refine kk _ μ MR.rf (Or.inr (Or.inr (Or.inr (Or.inl ?_))))
  exact ⟨so, dl, ln, th, us, lm, mk, ch, tl, cl, fl, na, s, lim, n, q, ⟨hB, ⟨by omega, by omega, by omega, by omega, by omega, g6, g7, g8, g9, g10, g11⟩, hRA, hs, hW⟩, hcl.w (by omega), by omega, q12, fun h => absurd h (by omega), hfl, ⟨rfl, rfl, c3, rfl, rfl⟩, by rw [if_neg (by omega)]; omega, m45, m26, by rw [if_neg (by omega)]; exact m36, m41, m42, m43⟩
theorem simV {φ : Nat} {σ μ : Sg} {Q : Sg → Prop} (h : StV (φ + 1) σ μ) (kk : ∀ σ' μ', MR μ μ' → Rr φ σ' μ' → Q σ') : TC σ Q := by
  obtain ⟨so, dl, ln, th, us, lm, mk, ch, tl, cl, fl, na, s, lim, n, a, f, k, j, m, h⟩ := h
  have hk32 : k < 32 := h.2.1.2.2.1
  have hcap : j < cap k := h.2.1.2.2.2.1
  have h : Vx so dl ln th us lm mk ch tl cl fl na s lim n a f k j m φ σ μ := h
  rcases k32 hk32 with rfl | rfl | rfl | rfl | rfl | rfl | rfl | rfl | rfl | rfl | rfl | rfl | rfl | rfl | rfl | rfl | rfl | rfl | rfl | rfl | rfl | rfl | rfl | rfl | rfl | rfl | rfl | rfl | rfl | rfl | rfl | rfl
  · exact absurd hcap (Nat.not_lt_zero j)
  · exact absurd hcap (Nat.not_lt_zero j)
  · exact absurd hcap (Nat.not_lt_zero j)
  · have hc : j < 2 := hcap
    rcases (show j = 0 ∨ j = 1 by omega) with rfl | rfl
    · exact svX h (Or.inl (by unfold isP2; omega)) (by decide) kk
    · exact sv3_1 h kk
  · have hc : j < 2 := hcap
    rcases (show j = 0 ∨ j = 1 by omega) with rfl | rfl
    · exact sv4_0 h kk
    · exact sv4_1 h kk
  · have hc : j < 2 := hcap
    rcases (show j = 0 ∨ j = 1 by omega) with rfl | rfl
    · exact svX h (Or.inl (by unfold isP2; omega)) (by decide) kk
    · exact sv5_1 h kk
  · have hc : j < 2 := hcap
    rcases (show j = 0 ∨ j = 1 by omega) with rfl | rfl
    · exact svX h (Or.inl (by unfold isP2; omega)) (by decide) kk
    · exact sv6_1 h kk
  · have hc : j < 2 := hcap
    rcases (show j = 0 ∨ j = 1 by omega) with rfl | rfl
    · exact svX h (Or.inl (by unfold isP2; omega)) (by decide) kk
    · exact sv7_1 h kk
  · have hc : j < 2 := hcap
    rcases (show j = 0 ∨ j = 1 by omega) with rfl | rfl
    · exact svX h (Or.inl (by unfold isP2; omega)) (by decide) kk
    · exact sv8_1 h kk
  · have hc : j < 2 := hcap
    rcases (show j = 0 ∨ j = 1 by omega) with rfl | rfl
    · exact svX h (Or.inl (by unfold isP2; omega)) (by decide) kk
    · exact sv9_1 h kk
  · have hc : j < 1 := hcap
    obtain rfl : j = 0 := by omega
    exact sv10_0 h kk
  · have hc : j < 1 := hcap
    obtain rfl : j = 0 := by omega
    exact sv11_0 h kk
  · have hc : j < 1 := hcap
    obtain rfl : j = 0 := by omega
    exact sv12_0 h kk
  · have hc : j < 1 := hcap
    obtain rfl : j = 0 := by omega
    exact sv13_0 h kk
  · have hc : j < 1 := hcap
    obtain rfl : j = 0 := by omega
    exact sv14_0 h kk
  · have hc : j < 2 := hcap
    rcases (show j = 0 ∨ j = 1 by omega) with rfl | rfl
    · exact svX h (Or.inl (by unfold isP2; omega)) (by decide) kk
    · exact sv15_1 h kk
  · have hc : j < 3 := hcap
    rcases (show j = 0 ∨ j = 1 ∨ j = 2 by omega) with rfl | rfl | rfl
    · exact svX h (Or.inr (by omega)) (by decide) kk
    · exact svY h (by omega) kk
    · exact sv16_2 h kk
  · have hc : j < 1 := hcap
    obtain rfl : j = 0 := by omega
    exact sv17_0 h kk
  · have hc : j < 2 := hcap
    rcases (show j = 0 ∨ j = 1 by omega) with rfl | rfl
    · exact svX h (Or.inl (by unfold isP2; omega)) (by decide) kk
    · exact sv18_1 h kk
  · have hc : j < 3 := hcap
    rcases (show j = 0 ∨ j = 1 ∨ j = 2 by omega) with rfl | rfl | rfl
    · exact svX h (Or.inr (by omega)) (by decide) kk
    · exact svY h (by omega) kk
    · exact sv19_2 h kk
  · have hc : j < 1 := hcap
    obtain rfl : j = 0 := by omega
    exact sv20_0 h kk
  · have hc : j < 2 := hcap
    rcases (show j = 0 ∨ j = 1 by omega) with rfl | rfl
    · exact sv21_0 h kk
    · exact sv21_1 h kk
  · have hc : j < 2 := hcap
    rcases (show j = 0 ∨ j = 1 by omega) with rfl | rfl
    · exact sv22_0 h kk
    · exact sv22_1 h kk
  · have hc : j < 2 := hcap
    rcases (show j = 0 ∨ j = 1 by omega) with rfl | rfl
    · exact sv23_0 h kk
    · exact sv23_1 h kk
  · have hc : j < 2 := hcap
    rcases (show j = 0 ∨ j = 1 by omega) with rfl | rfl
    · exact sv24_0 h kk
    · exact sv24_1 h kk
  · have hc : j < 2 := hcap
    rcases (show j = 0 ∨ j = 1 by omega) with rfl | rfl
    · exact sv25_0 h kk
    · exact sv25_1 h kk
  · have hc : j < 1 := hcap
    obtain rfl : j = 0 := by omega
    exact sv26_0 h kk
  · exact absurd hcap (Nat.not_lt_zero j)
  · have hc : j < 2 := hcap
    rcases (show j = 0 ∨ j = 1 by omega) with rfl | rfl
    · exact sv28_0 h kk
    · exact sv28_1 h kk
  · have hc : j < 1 := hcap
    obtain rfl : j = 0 := by omega
    exact sv29_0 h kk
  · exact absurd hcap (Nat.not_lt_zero j)
  · have hc : j < 1 := hcap
    obtain rfl : j = 0 := by omega
    exact sv31_0 h kk
