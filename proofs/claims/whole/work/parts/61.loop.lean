/-! the turns of a run, and its end -/
def En (σ μ : Sg) : Prop := (∃ φ, StF φ σ μ ∧ sI σ 21 8 = 0) ∨ StD σ μ
theorem hgt {n s : Nat} (h : n + 1 ≤ s) (hs : s ≤ 200) {σ : Sg} (h8 : sI σ 21 8 = nI (n + 1)) : ¬ sI σ 21 8 = 0 := neN (n + 1) 0 h8 rfl (by omega) (by omega) (by decide)
theorem loop_ok : ∀ (φ i : Nat) (σ μ : Sg) (Q : Sg → Prop), Rr φ σ μ → i + φ < 100000 → (∀ σ' μ', MR μ μ' → En σ' μ' → Q σ') → wX6_perform_19 (φ + 1) σ (nI i) Q := by
  intro φ
  induction φ with
  | zero =>
    intro i σ μ Q h hi kk
    unfold wX6_perform_19 wX8_isEmpty
    refine gT (ltN i 100000 rfl rfl (by omega) (by decide)) ?_
    have he : En σ μ := by
      rcases h with h | h | h | h | h | h
      · obtain ⟨so, dl, ln, th, us, lm, mk, ch, tl, cl, fl, na, s, lim, n, a, f, k, -, -, -, -, hφ, -⟩ := h
        omega
      · obtain ⟨so, dl, ln, th, us, lm, mk, ch, tl, cl, fl, na, s, lim, n, a, f, k, j, m, -, -, -, -, -, hφ, -⟩ := h
        omega
      · obtain ⟨so, dl, ln, th, us, lm, mk, ch, tl, cl, fl, na, s, lim, n, a, f, k, j, m, -, -, -, -, -, -, hφ, -⟩ := h
        omega
      · have h' := h
        obtain ⟨so, dl, ln, th, us, lm, mk, ch, tl, cl, fl, na, s, lim, n, q, -, -, -, -, -, -, hC, hφ, -⟩ := h'
        have : n = 0 := by omega
        subst this
        exact Or.inl ⟨0, h, hC.1⟩
      · obtain ⟨so, dl, ln, th, us, lm, mk, ch, tl, cl, fl, na, s, lim, n, q, a, -, -, -, -, -, -, hφ, -⟩ := h
        omega
      · exact Or.inr h
    have h8 : sI σ 21 8 = 0 := by
      rcases he with ⟨_, _, h8⟩ | hd
      · exact h8
      · obtain ⟨so, dl, ln, th, us, lm, mk, ch, tl, cl, fl, na, s, lim, v, -, -, hC, -⟩ := hd
        exact hC.1
    exact gT h8 (gF ne10 (kk _ _ MR.rf he))
  | succ φ ih =>
    intro i σ μ Q h hi kk
    have step : ¬ sI σ 21 8 = 0 → TC σ (fun σ' => wX6_perform_19 (φ + 1) σ' (nI (i + 1)) Q) → wX6_perform_19 (φ + 1 + 1) σ (nI i) Q := by
      intro h8 ht
      unfold wX6_perform_19 wX8_isEmpty
      rw [nI_1]
      exact gT (ltN i 100000 rfl rfl (by omega) (by decide)) (gF h8 (gT rfl ht))
    have stop : sI σ 21 8 = 0 → En σ μ → wX6_perform_19 (φ + 1 + 1) σ (nI i) Q := by
      intro h8 he
      unfold wX6_perform_19 wX8_isEmpty
      exact gT (ltN i 100000 rfl rfl (by omega) (by decide)) (gT h8 (gF ne10 (kk _ _ MR.rf he)))
    have go : ∀ σ' μ', MR μ μ' → Rr φ σ' μ' → wX6_perform_19 (φ + 1) σ' (nI (i + 1)) Q := fun σ' μ' hm hr => ih (i + 1) σ' μ' Q hr (by omega) (fun σ'' μ'' hm2 he => kk _ _ (hm.tr hm2) he)
    rcases h with h | h | h | h | h | h
    · have h' := h
      obtain ⟨so, dl, ln, th, us, lm, mk, ch, tl, cl, fl, na, s, lim, n, a, f, k, ⟨-, hbd, -⟩, -, -, hC, -⟩ := h'
      exact step (hgt (show n + 1 ≤ s by have := hbd.2.2.2.1; omega) (by have := hbd.2.2.2.2.2.2.2.2; omega) hC.1) (simL h go)
    · have h' := h
      obtain ⟨so, dl, ln, th, us, lm, mk, ch, tl, cl, fl, na, s, lim, n, a, f, k, j, m, ⟨-, hbd, -⟩, -, -, -, hC, -⟩ := h'
      exact step (hgt (show n + 1 ≤ s by have := hbd.2.2.2.1; omega) (by have := hbd.2.2.2.2.2.2.2.2; omega) hC.1) (simC h go)
    · have h' := h
      obtain ⟨so, dl, ln, th, us, lm, mk, ch, tl, cl, fl, na, s, lim, n, a, f, k, j, m, ⟨-, hbd, -⟩, -, -, -, -, hC, -⟩ := h'
      exact step (hgt (show n + 1 ≤ s by have := hbd.2.2.2.1; omega) (by have := hbd.2.2.2.2.2.2.2.2; omega) hC.1) (simV h go)
    · by_cases h8 : sI σ 21 8 = 0
      · exact stop h8 (Or.inl ⟨_, h, h8⟩)
      · exact step h8 (simF h h8 go)
    · have h' := h
      obtain ⟨so, dl, ln, th, us, lm, mk, ch, tl, cl, fl, na, s, lim, n, q, a, ⟨-, hbd, -⟩, -, -, -, -, hC, -⟩ := h'
      exact step (hgt (show n + 1 ≤ s by have := hbd.2.2.2.1; omega) (by have := hbd.2.2.2.2.2.2.2.2; omega) hC.1) (simJ h go)
    · have h' := h
      obtain ⟨so, dl, ln, th, us, lm, mk, ch, tl, cl, fl, na, s, lim, v, -, -, hC, -⟩ := h'
      exact stop hC.1 (Or.inr h)
/-- what both hold between the calls -/
def REL (σ μ : Sg) : Prop := ∃ (so dl ln : Nat → Nat) (th us lm na tl rn : Nat), Th so dl ln th us lm (sI μ 5) (sL σ 7) ∧ Mm so dl ln th (sL σ 7) (mT μ) (mN μ) ∧ sI σ 6 3 = nI us ∧ us ≤ 1708 ∧ 8 ≤ us ∧ lm ≤ 200 ∧ th ≤ 200 ∧ RA na σ μ ∧ (∀ j, j < tl → sI σ 11 j = sI μ 20 j) ∧ sI σ 5 4 = nI tl ∧ sI μ 0 24 = nI tl ∧ tl ≤ 40 ∧ V so dl th (sL σ 10 6) (sI μ 0 48) (sI μ 0 49) ∧
  sI σ 10 3 = sI μ 0 50 ∧ sI σ 10 4 = sI μ 0 51 ∧ sI σ 10 5 = sI μ 0 52 ∧ sI σ 10 1 = sI μ 0 53 ∧ sI σ 10 2 = sI μ 0 54 ∧ sI σ 0 2 = nI rn ∧ sI μ 0 5 = nI rn ∧ rn ≤ 400
def mEnd (μ : Sg) (t x k c a : Int32) : Sg := wI (wI (wI (wI (wI (wI (wI μ 0 53 (sI μ 0 45)) 0 54 (sI μ 0 44)) 0 48 t) 0 49 x) 0 50 k) 0 51 c) 0 52 a
theorem m_end1 {μ : Sg} {K : Int32 → Sg → Prop} (h1 : sI μ 0 36 = 1) (h0 : sI μ 0 26 = 0) (q : K (sI μ 0 39) (mEnd μ (sI μ 0 39) (sI μ 0 40) 0 0 (-1))) : wX11_run_137 2 μ 1 K := by
  unfold wX11_run_137
  refine gF ne10 (gF (by rw [h1]; decide) (gT h0 ?_))
  unfold wX11_run_137
  refine gT rfl (gT h1 ?_)
  unfold wX11_run_279 wX11_run_295 wX11_run_312 wX11_run_329 wX11_run_346 wX11_run_363
  exact gF ne10 (gF ne10 (gF ne10 (gF ne10 (gF ne10 (gF ne10 q)))))
theorem m_end0 {μ : Sg} {K : Int32 → Sg → Prop} (h1 : sI μ 0 36 = 2 ∨ sI μ 0 36 = 3) (h0 : sI μ 0 26 = 0) (q : K ((-10 : Int32) - sI μ 0 41) (mEnd μ 1 0 (sI μ 0 41) (sI μ 0 42) (sI μ 0 43))) : wX11_run_137 2 μ 1 K := by
  unfold wX11_run_137
  refine gF ne10 (gF (by rcases h1 with h | h <;> rw [h] <;> decide) (gT h0 ?_))
  unfold wX11_run_137
  refine gT rfl (gF (by rcases h1 with h | h <;> rw [h] <;> decide) ?_)
  unfold wX11_run_279 wX11_run_295 wX11_run_312 wX11_run_329 wX11_run_346 wX11_run_363
  exact gT rfl (gT rfl (gT rfl (gT rfl (gT rfl (gT rfl q)))))
theorem end_ok {σ μ : Sg} (h : En σ μ) {K : Int32 → Sg → Prop} (q : ∀ μ', REL σ μ' → K (if sI σ 10 3 = 0 then srt (sL σ 10 6) else (-10 : Int32) - sI σ 10 3) μ') : wX11_run_137 2 μ 1 K := by
  rcases h with ⟨φ, h, h8⟩ | h
  · obtain ⟨so, dl, ln, th, us, lm, mk, ch, tl, cl, fl, na, s, lim, n, e, ⟨hB, hbd, hRA, hs, hW⟩, hcl, q1, q12, hf1, hf2, hC, hφ, m45, m26, m36, m41, m42, m43⟩ := h
    obtain ⟨g1, g2, g3, g4, g5, g6, g7, g8, g9, g10, g11⟩ := hbd
    have hn : n = 0 := eqN (hC.1.symm.trans h8) (by omega) (by decide)
    subst hn
    obtain ⟨b1, b2, b3, b4, b5, b6, ⟨e1, e2, e3, e4, e5, e6, e7⟩, ⟨d1, d2, d3, d4, d5, d6, d7, d8⟩, ⟨b9, rn, hr4, hr⟩, b10⟩ := hB
    have hc3 : sI σ 10 3 = nI e := hC.2.2.1
    refine m_end0 ?_ m26 ?_
    · by_cases h9 : e < 9
      · rw [if_pos h9] at m36; exact Or.inl m36
      · rw [if_neg h9] at m36; exact Or.inr m36
    · have hq := q (mEnd μ 1 0 (sI μ 0 41) (sI μ 0 42) (sI μ 0 43)) ?_
      · have n0 : ¬ sI σ 10 3 = 0 := neN e 0 hc3 rfl (by omega) (by omega) (by decide)
        rw [if_neg n0, hc3, ← m41] at hq
        exact hq
      · refine ⟨so, dl, ln, th, us, lm, na, tl, rn, b1, b2, e1, by omega, g11, by omega, by omega, hRA, b6, d1, d2, g7, ?_, ?_, ?_, ?_, ?_, ?_, hr, ?_, hr4⟩
        · rw [b10]; exact V.no
        · exact hc3.trans m41.symm
        · exact m42.symm
        · exact m43.symm
        · exact hs.trans m45.symm
        · exact d5.trans d6.symm
        · exact b9.symm.trans hr
  · obtain ⟨so, dl, ln, th, us, lm, mk, ch, tl, cl, fl, na, s, lim, v, ⟨hB, hbd, hRA, hs, hW⟩, hfl, hC, hv, m45, m26, m36, hV⟩ := h
    obtain ⟨g1, g2, g3, g4, g5, g6, g7, g8, g9, g10, g11⟩ := hbd
    obtain ⟨b1, b2, b3, b4, b5, b6, ⟨e1, e2, e3, e4, e5, e6, e7⟩, ⟨d1, d2, d3, d4, d5, d6, d7, d8⟩, ⟨b9, rn, hr4, hr⟩, b10⟩ := hB
    have hc3 : sI σ 10 3 = 0 := hC.2.2.1
    refine m_end1 m36 m26 ?_
    have hq := q (mEnd μ (sI μ 0 39) (sI μ 0 40) 0 0 (-1)) ?_
    · rw [if_pos hc3, hv, hV.srt] at hq
      exact hq
    · refine ⟨so, dl, ln, th, us, lm, na, tl, rn, b1, b2, e1, by omega, g11, by omega, by omega, hRA, b6, d1, d2, g7, ?_, hc3, hC.2.2.2.1, hC.2.2.2.2, ?_, ?_, hr, ?_, hr4⟩
      · rw [hv]; exact hV
      · exact hs.trans m45.symm
      · exact d5.trans d6.symm
      · exact b9.symm.trans hr
