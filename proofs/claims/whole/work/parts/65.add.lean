section SP
variable {ρ : Sg} {x k u v i d : Nat} {Q : Sg → Prop}
theorem sp_it (hx : x < 60) (hk : k < 32) (hi : i < 3) (hu : u ≤ i) (q1 : tm k i = 1 → wX0_sortParts_8 d (wI ρ 3 (3 * x + u) (sI ρ 2 (4 * x + 1 + i))) (nI x) (nI (3 * k)) (nI (u + 1)) (nI (v + 1)) (nI (i + 1)) Q) (q2 : tm k i = 2 → wX0_sortParts_8 d (wI ρ 3 (3 * x + u) (sI ρ 2 (4 * x + 1 + i))) (nI x) (nI (3 * k)) (nI (u + 1)) (nI v) (nI (i + 1)) Q) (q0 : ¬ tm k i = 1 → ¬ tm k i = 2 → wX0_sortParts_8 d ρ (nI x) (nI (3 * k)) (nI u) (nI v) (nI (i + 1)) Q) : wX0_sortParts_8 (d + 1) ρ (nI x) (nI (3 * k)) (nI u) (nI v) (nI i) Q := by
  have e1 : nI (3 * k) + nI i = nI (3 * k + i) := addN _ _ rfl rfl
  have e2 : (((4 : Int32) * nI x) + (1 : Int32)) + nI i = nI (4 * x + 1 + i) := addN _ _ (addN _ 1 (mulN 4 x rfl rfl) rfl) rfl
  have e3 : ((3 : Int32) * nI x) + nI u = nI (3 * x + u) := addN _ _ (mulN 3 x rfl rfl) rfl
  have v1 : vp_in (nI (3 * k + i)) 96 := vp_in_nI (by omega) (by decide)
  have v2 : vp_in (nI (4 * x + 1 + i)) 240 := vp_in_nI (by omega) (by decide)
  have v3 : vp_in (nI (3 * x + u)) 180 := vp_in_nI (by omega) (by decide)
  unfold wX0_sortParts_8
  rw [e1, e2, e3, nI_clamp (by omega), nI_clamp (by omega), nI_clamp (by omega), nI_1, nI_1, nI_1]
  refine gT (ltN i 3 rfl rfl hi (by decide)) ⟨v1, fun g => ⟨v2, v3, gT g (q1 g)⟩, fun g => ⟨fun g2 => ⟨v2, v3, gF g (q2 g2)⟩, fun g2 => gF g (q0 g g2)⟩⟩
theorem sp_end (hx : x < 60) (q : Q (wI ρ 4 x (nI v))) : wX0_sortParts_8 (d + 1) ρ (nI x) (nI (3 * k)) (nI u) (nI v) (nI 3) Q := by
  unfold wX0_sortParts_8
  rw [nI_clamp (by omega)]
  exact gF (by decide) ⟨vp_in_nI hx (by decide), q⟩
def SPr (ρ : Sg) (x k : Nat) (ρ' : Sg) : Prop := (∀ o j, o ≠ 3 → o ≠ 4 → sI ρ' o j = sI ρ o j) ∧ (∀ o j, sL ρ' o j = sL ρ o j) ∧ (∀ j, j < 3 * x → sI ρ' 3 j = sI ρ 3 j) ∧ (∀ j, j < x → sI ρ' 4 j = sI ρ 4 j) ∧ sI ρ' 4 x = nI (ahd k) ∧ (1 ≤ nps k → sI ρ' 3 (3 * x) = sI ρ 2 (4 * x + 1 + ps0 k)) ∧ (2 ≤ nps k → sI ρ' 3 (3 * x + 1) = sI ρ 2 (4 * x + 1 + ps1 k)) ∧ (3 ≤ nps k → sI ρ' 3 (3 * x + 2) = sI ρ 2 (4 * x + 1 + ps2 k))
theorem tm_all (hk : k < 32) : (tm k 0 = 1 ∨ tm k 0 = 2 ∨ (¬ tm k 0 = 1 ∧ ¬ tm k 0 = 2)) := by
  by_cases h1 : tm k 0 = 1
  · exact Or.inl h1
  · by_cases h2 : tm k 0 = 2
    · exact Or.inr (Or.inl h2)
    · exact Or.inr (Or.inr ⟨h1, h2⟩)
def bn (p : Prop) [Decidable p] : Nat := if p then 1 else 0
theorem tm_tab (hk : k < 32) : ahd k = bn (tm k 0 = 1) + bn (tm k 1 = 1) + bn (tm k 2 = 1) ∧ nps k = bn (tm k 0 = 1 ∨ tm k 0 = 2) + bn (tm k 1 = 1 ∨ tm k 1 = 2) + bn (tm k 2 = 1 ∨ tm k 2 = 2) ∧ (tm k 0 = 1 ∨ tm k 0 = 2 → ps0 k = 0 ∧ (tm k 1 = 1 ∨ tm k 1 = 2 → ps1 k = 1 ∧ (tm k 2 = 1 ∨ tm k 2 = 2 → ps2 k = 2)) ∧ (¬ (tm k 1 = 1 ∨ tm k 1 = 2) → (tm k 2 = 1 ∨ tm k 2 = 2) → ps1 k = 2)) ∧ (¬ (tm k 0 = 1 ∨ tm k 0 = 2) → (tm k 1 = 1 ∨ tm k 1 = 2 → ps0 k = 1 ∧ ¬ (tm k 2 = 1 ∨ tm k 2 = 2)) ∧ (¬ (tm k 1 = 1 ∨ tm k 1 = 2) → ¬ (tm k 2 = 1 ∨ tm k 2 = 2))) := by
  have a0 : ∀ k, k < 32 → ahd k = bn (tm k 0 = 1) + bn (tm k 1 = 1) + bn (tm k 2 = 1) := by decide
  have a1 : ∀ k, k < 32 → nps k = bn (tm k 0 = 1 ∨ tm k 0 = 2) + bn (tm k 1 = 1 ∨ tm k 1 = 2) + bn (tm k 2 = 1 ∨ tm k 2 = 2) := by decide
  have a2 : ∀ k, k < 32 → ((tm k 0 = 1 ∨ tm k 0 = 2) → ps0 k = 0) := by decide
  have a3 : ∀ k, k < 32 → ((tm k 0 = 1 ∨ tm k 0 = 2) → (tm k 1 = 1 ∨ tm k 1 = 2) → ps1 k = 1) := by decide
  have a4 : ∀ k, k < 32 → ((tm k 0 = 1 ∨ tm k 0 = 2) → (tm k 1 = 1 ∨ tm k 1 = 2) → (tm k 2 = 1 ∨ tm k 2 = 2) → ps2 k = 2) := by decide
  have a5 : ∀ k, k < 32 → ((tm k 0 = 1 ∨ tm k 0 = 2) → ¬ (tm k 1 = 1 ∨ tm k 1 = 2) → (tm k 2 = 1 ∨ tm k 2 = 2) → ps1 k = 2) := by decide
  have a6 : ∀ k, k < 32 → (¬ (tm k 0 = 1 ∨ tm k 0 = 2) → (tm k 1 = 1 ∨ tm k 1 = 2) → ps0 k = 1) := by decide
  have a7 : ∀ k, k < 32 → (¬ (tm k 0 = 1 ∨ tm k 0 = 2) → (tm k 1 = 1 ∨ tm k 1 = 2) → ¬ (tm k 2 = 1 ∨ tm k 2 = 2)) := by decide
  have a8 : ∀ k, k < 32 → (¬ (tm k 0 = 1 ∨ tm k 0 = 2) → ¬ (tm k 1 = 1 ∨ tm k 1 = 2) → ¬ (tm k 2 = 1 ∨ tm k 2 = 2)) := by decide
  exact ⟨a0 k hk, a1 k hk, fun h => ⟨a2 k hk h, fun g => ⟨a3 k hk h g, a4 k hk h g⟩, a5 k hk h⟩, fun h => ⟨fun g => ⟨a6 k hk h g, a7 k hk h g⟩, a8 k hk h⟩⟩
/-- the parts written: none, one, two or three -/
theorem SPr.n0 (ha : ahd k = v) (hn : nps k = 0) : SPr ρ x k (wI ρ 4 x (nI v)) := by
  refine ⟨fun o j h3 h4 => i_o h4, fun _ _ => rfl, fun j hj => rfl, fun j hj => i_j (by omega), by rw [ha, i_e], fun h => by omega, fun h => by omega, fun h => by omega⟩
theorem SPr.n1 {A : Int32} (ha : ahd k = v) (hn : nps k = 1) (hA : A = sI ρ 2 (4 * x + 1 + ps0 k)) : SPr ρ x k (wI (wI ρ 3 (3 * x + 0) A) 4 x (nI v)) := by
  refine ⟨fun o j h3 h4 => by rw [i_o h4, i_o h3], fun _ _ => rfl, fun j hj => ?_, fun j hj => ?_, by rw [ha, i_e], fun h => ?_, fun h => by omega, fun h => by omega⟩
  · rw [i_o (by decide), i_j (by omega)]
  · rw [i_j (by omega), i_o (by decide)]
  · rw [i_o (by decide), Nat.add_zero, i_e]; exact hA
theorem SPr.n2 {A B : Int32} (ha : ahd k = v) (hn : nps k = 2) (hA : A = sI ρ 2 (4 * x + 1 + ps0 k)) (hB : B = sI ρ 2 (4 * x + 1 + ps1 k)) : SPr ρ x k (wI (wI (wI ρ 3 (3 * x + 0) A) 3 (3 * x + 1) B) 4 x (nI v)) := by
  refine ⟨fun o j h3 h4 => by rw [i_o h4, i_o h3, i_o h3], fun _ _ => rfl, fun j hj => ?_, fun j hj => ?_, by rw [ha, i_e], fun h => ?_, fun h => ?_, fun h => by omega⟩
  · rw [i_o (by decide), i_j (by omega), i_j (by omega)]
  · rw [i_j (by omega), i_o (by decide), i_o (by decide)]
  · rw [i_o (by decide), i_j (by omega), Nat.add_zero, i_e]; exact hA
  · rw [i_o (by decide), i_e]; exact hB
theorem SPr.n3 {A B C : Int32} (ha : ahd k = v) (hn : nps k = 3) (hA : A = sI ρ 2 (4 * x + 1 + ps0 k)) (hB : B = sI ρ 2 (4 * x + 1 + ps1 k)) (hC : C = sI ρ 2 (4 * x + 1 + ps2 k)) : SPr ρ x k (wI (wI (wI (wI ρ 3 (3 * x + 0) A) 3 (3 * x + 1) B) 3 (3 * x + 2) C) 4 x (nI v)) := by
  refine ⟨fun o j h3 h4 => by rw [i_o h4, i_o h3, i_o h3, i_o h3], fun _ _ => rfl, fun j hj => ?_, fun j hj => ?_, by rw [ha, i_e], fun h => ?_, fun h => ?_, fun h => ?_⟩
  · rw [i_o (by decide), i_j (by omega), i_j (by omega), i_j (by omega)]
  · rw [i_j (by omega), i_o (by decide), i_o (by decide), i_o (by decide)]
  · rw [i_o (by decide), i_j (by omega), i_j (by omega), Nat.add_zero, i_e]; exact hA
  · rw [i_o (by decide), i_j (by omega), i_e]; exact hB
  · rw [i_o (by decide), i_e]; exact hC
theorem sp_ok (hx : x < 60) (hk : k < 32) (q : ∀ ρ', SPr ρ x k ρ' → Q ρ') : wX0_sortParts ρ (nI x) (nI (3 * k)) Q := by
  obtain ⟨ta, tn, ty, tz⟩ := tm_tab hk
  have b1 : ∀ {p : Prop} [Decidable p], p → bn p = 1 := fun h => if_pos h
  have b0 : ∀ {p : Prop} [Decidable p], ¬ p → bn p = 0 := fun h => if_neg h
  have one : ∀ {p : Nat}, tm k p = 1 → ¬ tm k p = 2 := fun h g => by rw [h] at g; exact absurd g (by decide)
  have two : ∀ {p : Nat}, tm k p = 2 → ¬ tm k p = 1 := fun h g => by rw [h] at g; exact absurd g (by decide)
  have nn : ∀ {p : Nat}, ¬ tm k p = 1 → ¬ tm k p = 2 → ¬ (tm k p = 1 ∨ tm k p = 2) := fun h g q => by
    rcases q with q | q
    · exact h q
    · exact g q
  refine ⟨4, sp_it (u := 0) (v := 0) (i := 0) hx hk (by omega) (by omega) (fun h0 => ?_) (fun h0 => ?_) (fun h0 g0 => ?_)⟩
  · refine sp_it (u := 1) (v := 1) (i := 1) hx hk (by omega) (by omega) (fun h1 => ?_) (fun h1 => ?_) (fun h1 g1 => ?_)
    · refine sp_it (u := 2) (v := 2) (i := 2) hx hk (by omega) (by omega) (fun h2 => ?_) (fun h2 => ?_) (fun h2 g2 => ?_)
      · have f0 := ta
        have f1 := tn
        rw [b1 h0, b1 h1, b1 h2] at f0
        rw [b1 (Or.inl h0), b1 (Or.inl h1), b1 (Or.inl h2)] at f1
        exact sp_end (u := 3) (v := 3) hx (q _ (SPr.n3 f0 f1 (by rw [(ty (Or.inl h0)).1]) (by rw [((ty (Or.inl h0)).2.1 (Or.inl h1)).1]; rfl) (by rw [((ty (Or.inl h0)).2.1 (Or.inl h1)).2 (Or.inl h2)]; rfl)))
      · have f0 := ta
        have f1 := tn
        rw [b1 h0, b1 h1, b0 (two h2)] at f0
        rw [b1 (Or.inl h0), b1 (Or.inl h1), b1 (Or.inr h2)] at f1
        exact sp_end (u := 3) (v := 2) hx (q _ (SPr.n3 f0 f1 (by rw [(ty (Or.inl h0)).1]) (by rw [((ty (Or.inl h0)).2.1 (Or.inl h1)).1]; rfl) (by rw [((ty (Or.inl h0)).2.1 (Or.inl h1)).2 (Or.inr h2)]; rfl)))
      · have f0 := ta
        have f1 := tn
        rw [b1 h0, b1 h1, b0 h2] at f0
        rw [b1 (Or.inl h0), b1 (Or.inl h1), b0 (nn h2 g2)] at f1
        exact sp_end (u := 2) (v := 2) hx (q _ (SPr.n2 f0 f1 (by rw [(ty (Or.inl h0)).1]) (by rw [((ty (Or.inl h0)).2.1 (Or.inl h1)).1]; rfl)))
    · refine sp_it (u := 2) (v := 1) (i := 2) hx hk (by omega) (by omega) (fun h2 => ?_) (fun h2 => ?_) (fun h2 g2 => ?_)
      · have f0 := ta
        have f1 := tn
        rw [b1 h0, b0 (two h1), b1 h2] at f0
        rw [b1 (Or.inl h0), b1 (Or.inr h1), b1 (Or.inl h2)] at f1
        exact sp_end (u := 3) (v := 2) hx (q _ (SPr.n3 f0 f1 (by rw [(ty (Or.inl h0)).1]) (by rw [((ty (Or.inl h0)).2.1 (Or.inr h1)).1]; rfl) (by rw [((ty (Or.inl h0)).2.1 (Or.inr h1)).2 (Or.inl h2)]; rfl)))
      · have f0 := ta
        have f1 := tn
        rw [b1 h0, b0 (two h1), b0 (two h2)] at f0
        rw [b1 (Or.inl h0), b1 (Or.inr h1), b1 (Or.inr h2)] at f1
        exact sp_end (u := 3) (v := 1) hx (q _ (SPr.n3 f0 f1 (by rw [(ty (Or.inl h0)).1]) (by rw [((ty (Or.inl h0)).2.1 (Or.inr h1)).1]; rfl) (by rw [((ty (Or.inl h0)).2.1 (Or.inr h1)).2 (Or.inr h2)]; rfl)))
      · have f0 := ta
        have f1 := tn
        rw [b1 h0, b0 (two h1), b0 h2] at f0
        rw [b1 (Or.inl h0), b1 (Or.inr h1), b0 (nn h2 g2)] at f1
        exact sp_end (u := 2) (v := 1) hx (q _ (SPr.n2 f0 f1 (by rw [(ty (Or.inl h0)).1]) (by rw [((ty (Or.inl h0)).2.1 (Or.inr h1)).1]; rfl)))
    · refine sp_it (u := 1) (v := 1) (i := 2) hx hk (by omega) (by omega) (fun h2 => ?_) (fun h2 => ?_) (fun h2 g2 => ?_)
      · have f0 := ta
        have f1 := tn
        rw [b1 h0, b0 h1, b1 h2] at f0
        rw [b1 (Or.inl h0), b0 (nn h1 g1), b1 (Or.inl h2)] at f1
        exact sp_end (u := 2) (v := 2) hx (q _ (SPr.n2 f0 f1 (by rw [(ty (Or.inl h0)).1]) (by rw [(ty (Or.inl h0)).2.2 (nn h1 g1) (Or.inl h2)]; rfl)))
      · have f0 := ta
        have f1 := tn
        rw [b1 h0, b0 h1, b0 (two h2)] at f0
        rw [b1 (Or.inl h0), b0 (nn h1 g1), b1 (Or.inr h2)] at f1
        exact sp_end (u := 2) (v := 1) hx (q _ (SPr.n2 f0 f1 (by rw [(ty (Or.inl h0)).1]) (by rw [(ty (Or.inl h0)).2.2 (nn h1 g1) (Or.inr h2)]; rfl)))
      · have f0 := ta
        have f1 := tn
        rw [b1 h0, b0 h1, b0 h2] at f0
        rw [b1 (Or.inl h0), b0 (nn h1 g1), b0 (nn h2 g2)] at f1
        exact sp_end (u := 1) (v := 1) hx (q _ (SPr.n1 f0 f1 (by rw [(ty (Or.inl h0)).1])))
  · refine sp_it (u := 1) (v := 0) (i := 1) hx hk (by omega) (by omega) (fun h1 => ?_) (fun h1 => ?_) (fun h1 g1 => ?_)
    · refine sp_it (u := 2) (v := 1) (i := 2) hx hk (by omega) (by omega) (fun h2 => ?_) (fun h2 => ?_) (fun h2 g2 => ?_)
      · have f0 := ta
        have f1 := tn
        rw [b0 (two h0), b1 h1, b1 h2] at f0
        rw [b1 (Or.inr h0), b1 (Or.inl h1), b1 (Or.inl h2)] at f1
        exact sp_end (u := 3) (v := 2) hx (q _ (SPr.n3 f0 f1 (by rw [(ty (Or.inr h0)).1]) (by rw [((ty (Or.inr h0)).2.1 (Or.inl h1)).1]; rfl) (by rw [((ty (Or.inr h0)).2.1 (Or.inl h1)).2 (Or.inl h2)]; rfl)))
      · have f0 := ta
        have f1 := tn
        rw [b0 (two h0), b1 h1, b0 (two h2)] at f0
        rw [b1 (Or.inr h0), b1 (Or.inl h1), b1 (Or.inr h2)] at f1
        exact sp_end (u := 3) (v := 1) hx (q _ (SPr.n3 f0 f1 (by rw [(ty (Or.inr h0)).1]) (by rw [((ty (Or.inr h0)).2.1 (Or.inl h1)).1]; rfl) (by rw [((ty (Or.inr h0)).2.1 (Or.inl h1)).2 (Or.inr h2)]; rfl)))
      · have f0 := ta
        have f1 := tn
        rw [b0 (two h0), b1 h1, b0 h2] at f0
        rw [b1 (Or.inr h0), b1 (Or.inl h1), b0 (nn h2 g2)] at f1
        exact sp_end (u := 2) (v := 1) hx (q _ (SPr.n2 f0 f1 (by rw [(ty (Or.inr h0)).1]) (by rw [((ty (Or.inr h0)).2.1 (Or.inl h1)).1]; rfl)))
    · refine sp_it (u := 2) (v := 0) (i := 2) hx hk (by omega) (by omega) (fun h2 => ?_) (fun h2 => ?_) (fun h2 g2 => ?_)
      · have f0 := ta
        have f1 := tn
        rw [b0 (two h0), b0 (two h1), b1 h2] at f0
        rw [b1 (Or.inr h0), b1 (Or.inr h1), b1 (Or.inl h2)] at f1
        exact sp_end (u := 3) (v := 1) hx (q _ (SPr.n3 f0 f1 (by rw [(ty (Or.inr h0)).1]) (by rw [((ty (Or.inr h0)).2.1 (Or.inr h1)).1]; rfl) (by rw [((ty (Or.inr h0)).2.1 (Or.inr h1)).2 (Or.inl h2)]; rfl)))
      · have f0 := ta
        have f1 := tn
        rw [b0 (two h0), b0 (two h1), b0 (two h2)] at f0
        rw [b1 (Or.inr h0), b1 (Or.inr h1), b1 (Or.inr h2)] at f1
        exact sp_end (u := 3) (v := 0) hx (q _ (SPr.n3 f0 f1 (by rw [(ty (Or.inr h0)).1]) (by rw [((ty (Or.inr h0)).2.1 (Or.inr h1)).1]; rfl) (by rw [((ty (Or.inr h0)).2.1 (Or.inr h1)).2 (Or.inr h2)]; rfl)))
      · have f0 := ta
        have f1 := tn
        rw [b0 (two h0), b0 (two h1), b0 h2] at f0
        rw [b1 (Or.inr h0), b1 (Or.inr h1), b0 (nn h2 g2)] at f1
        exact sp_end (u := 2) (v := 0) hx (q _ (SPr.n2 f0 f1 (by rw [(ty (Or.inr h0)).1]) (by rw [((ty (Or.inr h0)).2.1 (Or.inr h1)).1]; rfl)))
    · refine sp_it (u := 1) (v := 0) (i := 2) hx hk (by omega) (by omega) (fun h2 => ?_) (fun h2 => ?_) (fun h2 g2 => ?_)
      · have f0 := ta
        have f1 := tn
        rw [b0 (two h0), b0 h1, b1 h2] at f0
        rw [b1 (Or.inr h0), b0 (nn h1 g1), b1 (Or.inl h2)] at f1
        exact sp_end (u := 2) (v := 1) hx (q _ (SPr.n2 f0 f1 (by rw [(ty (Or.inr h0)).1]) (by rw [(ty (Or.inr h0)).2.2 (nn h1 g1) (Or.inl h2)]; rfl)))
      · have f0 := ta
        have f1 := tn
        rw [b0 (two h0), b0 h1, b0 (two h2)] at f0
        rw [b1 (Or.inr h0), b0 (nn h1 g1), b1 (Or.inr h2)] at f1
        exact sp_end (u := 2) (v := 0) hx (q _ (SPr.n2 f0 f1 (by rw [(ty (Or.inr h0)).1]) (by rw [(ty (Or.inr h0)).2.2 (nn h1 g1) (Or.inr h2)]; rfl)))
      · have f0 := ta
        have f1 := tn
        rw [b0 (two h0), b0 h1, b0 h2] at f0
        rw [b1 (Or.inr h0), b0 (nn h1 g1), b0 (nn h2 g2)] at f1
        exact sp_end (u := 1) (v := 0) hx (q _ (SPr.n1 f0 f1 (by rw [(ty (Or.inr h0)).1])))
  · refine sp_it (u := 0) (v := 0) (i := 1) hx hk (by omega) (by omega) (fun h1 => ?_) (fun h1 => ?_) (fun h1 g1 => ?_)
    · refine sp_it (u := 1) (v := 1) (i := 2) hx hk (by omega) (by omega) (fun h2 => ?_) (fun h2 => ?_) (fun h2 g2 => ?_)
      · have f0 := ta
        have f1 := tn
        rw [b0 h0, b1 h1, b1 h2] at f0
        rw [b0 (nn h0 g0), b1 (Or.inl h1), b1 (Or.inl h2)] at f1
        exact absurd (Or.inl h2) ((tz (nn h0 g0)).1 (Or.inl h1)).2
      · have f0 := ta
        have f1 := tn
        rw [b0 h0, b1 h1, b0 (two h2)] at f0
        rw [b0 (nn h0 g0), b1 (Or.inl h1), b1 (Or.inr h2)] at f1
        exact absurd (Or.inr h2) ((tz (nn h0 g0)).1 (Or.inl h1)).2
      · have f0 := ta
        have f1 := tn
        rw [b0 h0, b1 h1, b0 h2] at f0
        rw [b0 (nn h0 g0), b1 (Or.inl h1), b0 (nn h2 g2)] at f1
        exact sp_end (u := 1) (v := 1) hx (q _ (SPr.n1 f0 f1 (by rw [((tz (nn h0 g0)).1 (Or.inl h1)).1])))
    · refine sp_it (u := 1) (v := 0) (i := 2) hx hk (by omega) (by omega) (fun h2 => ?_) (fun h2 => ?_) (fun h2 g2 => ?_)
      · have f0 := ta
        have f1 := tn
        rw [b0 h0, b0 (two h1), b1 h2] at f0
        rw [b0 (nn h0 g0), b1 (Or.inr h1), b1 (Or.inl h2)] at f1
        exact absurd (Or.inl h2) ((tz (nn h0 g0)).1 (Or.inr h1)).2
      · have f0 := ta
        have f1 := tn
        rw [b0 h0, b0 (two h1), b0 (two h2)] at f0
        rw [b0 (nn h0 g0), b1 (Or.inr h1), b1 (Or.inr h2)] at f1
        exact absurd (Or.inr h2) ((tz (nn h0 g0)).1 (Or.inr h1)).2
      · have f0 := ta
        have f1 := tn
        rw [b0 h0, b0 (two h1), b0 h2] at f0
        rw [b0 (nn h0 g0), b1 (Or.inr h1), b0 (nn h2 g2)] at f1
        exact sp_end (u := 1) (v := 0) hx (q _ (SPr.n1 f0 f1 (by rw [((tz (nn h0 g0)).1 (Or.inr h1)).1])))
    · refine sp_it (u := 0) (v := 0) (i := 2) hx hk (by omega) (by omega) (fun h2 => ?_) (fun h2 => ?_) (fun h2 g2 => ?_)
      · have f0 := ta
        have f1 := tn
        rw [b0 h0, b0 h1, b1 h2] at f0
        rw [b0 (nn h0 g0), b0 (nn h1 g1), b1 (Or.inl h2)] at f1
        exact absurd (Or.inl h2) ((tz (nn h0 g0)).2 (nn h1 g1))
      · have f0 := ta
        have f1 := tn
        rw [b0 h0, b0 h1, b0 (two h2)] at f0
        rw [b0 (nn h0 g0), b0 (nn h1 g1), b1 (Or.inr h2)] at f1
        exact absurd (Or.inr h2) ((tz (nn h0 g0)).2 (nn h1 g1))
      · have f0 := ta
        have f1 := tn
        rw [b0 h0, b0 h1, b0 h2] at f0
        rw [b0 (nn h0 g0), b0 (nn h1 g1), b0 (nn h2 g2)] at f1
        exact sp_end (u := 0) (v := 0) hx (q _ (SPr.n0 f0 f1))
end SP
