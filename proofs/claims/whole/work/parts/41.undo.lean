section UN
variable {so dl ln : Nat → Nat} {th us lm mk tl cl fl na lim : Nat}
theorem vld_lt {w : Nat} (h : vld so ln th w) : w < 8 + 16 * th ∨ w < 8 := by
  rcases h with h | ⟨h1, h2, -⟩
  · exact Or.inr h
  · exact Or.inl (by omega)
theorem Bs.undo1 {g w : Nat} {σ μ : Sg} (hB : Bs so dl ln th us lm mk (g + 1) tl cl fl na lim σ μ) (hw : vld so ln th w) (hV : V so dl th (sL σ 9 g) (sI μ 18 g) (sI μ 19 g)) (ht : typ so w (sI μ 18 g)) : Bs so dl ln th us lm mk g tl cl fl na lim (wL (wI σ 6 4 (nI g)) 7 (cad so dl w) (sL σ 9 g)) (mSet (wI μ 0 20 (nI g)) w (sI μ 18 g) (sI μ 19 g)) := by
  obtain ⟨b1, b2, b3, b4, b5, b6, ⟨c1, c2, c3, c4, c5, c6, c7⟩, ⟨d1, d2, d3, d4, d5, d6, d7, d8⟩, b9, b10⟩ := hB
  have R : ∀ o j : Nat, o ≠ 6 → o ≠ 7 → o ≠ 15 → o ≠ 16 → (o ≠ 0 ∨ j ≠ 20) → sI (mSet (wI μ 0 20 (nI g)) w (sI μ 18 g) (sI μ 19 g)) o j = sI μ o j := by
    intro o j h6 h7 h15 h16 h0
    rw [mSet_I _ _ _ _ _ _ h6 h7 h15 h16, sI_wI, if_neg (by omega)]
  have F : ∀ o : Nat, o ≠ 6 → o ≠ 7 → o ≠ 15 → o ≠ 16 → o ≠ 0 → sI (mSet (wI μ 0 20 (nI g)) w (sI μ 18 g) (sI μ 19 g)) o = sI μ o := fun o h6 h7 h15 h16 h0 => funext (fun j => R o j h6 h7 h15 h16 (Or.inl h0))
  have cc : ∀ c, sL (wL (wI σ 6 4 (nI g)) 7 (cad so dl w) (sL σ 9 g)) 7 c = if c = cad so dl w then sL σ 9 g else sL σ 7 c := by
    intro c
    rw [sL_wL, sL_wI]
    by_cases e : c = cad so dl w
    · simp [e]
    · simp [e]
  have mt : ∀ y, mT (mSet (wI μ 0 20 (nI g)) w (sI μ 18 g) (sI μ 19 g)) y = if y = w then sI μ 18 g else mT μ y := fun y => mT_set _ _ _ _ _
  have mn : ∀ y, mN (mSet (wI μ 0 20 (nI g)) w (sI μ 18 g) (sI μ 19 g)) y = if y = w then sI μ 19 g else mN μ y := fun y => mN_set _ _ _ _ _
  refine ⟨?_, b2.set b1 hw hV ht cc mt mn, ?_, ?_, ?_, ?_, ⟨c1, ?_, ?_, c4, ?_, c6, ?_⟩, ⟨d1, ?_, d3, ?_, d5, ?_, d7, ?_⟩, ?_, b10⟩
  · rw [F 5 (by decide) (by decide) (by decide) (by decide) (by decide)]
    exact b1.set hw (fun c hc => by rw [cc, if_neg hc])
  · rw [F 17 (by decide) (by decide) (by decide) (by decide) (by decide), F 18 (by decide) (by decide) (by decide) (by decide) (by decide), F 19 (by decide) (by decide) (by decide) (by decide) (by decide)]
    exact fun j hj => b3 j (by omega)
  · rw [F 13 (by decide) (by decide) (by decide) (by decide) (by decide), F 14 (by decide) (by decide) (by decide) (by decide) (by decide)]
    exact b4
  · rw [F 8 (by decide) (by decide) (by decide) (by decide) (by decide), F 9 (by decide) (by decide) (by decide) (by decide) (by decide), F 10 (by decide) (by decide) (by decide) (by decide) (by decide), F 11 (by decide) (by decide) (by decide) (by decide) (by decide), F 12 (by decide) (by decide) (by decide) (by decide) (by decide)]
    exact b5
  · rw [F 20 (by decide) (by decide) (by decide) (by decide) (by decide)]
    exact b6
  · rw [sI_wL, i_e]
  · rw [mSet_I _ _ _ _ _ _ (by decide) (by decide) (by decide) (by decide), i_e]
  · rw [R 0 15 (by decide) (by decide) (by decide) (by decide) (by decide)]; exact c5
  · rw [R 0 6 (by decide) (by decide) (by decide) (by decide) (by decide)]; exact c7
  · rw [R 0 24 (by decide) (by decide) (by decide) (by decide) (by decide)]; exact d2
  · rw [R 0 47 (by decide) (by decide) (by decide) (by decide) (by decide)]; exact d4
  · rw [R 0 44 (by decide) (by decide) (by decide) (by decide) (by decide)]; exact d6
  · rw [R 0 46 (by decide) (by decide) (by decide) (by decide) (by decide)]; exact d8
  · rw [R 0 5 (by decide) (by decide) (by decide) (by decide) (by decide)]; exact b9
theorem undo_ok (m : Nat) (hm : m ≤ 1700) (h8 : 8 ≤ us) (hus : us ≤ 1708) (hth : th ≤ 200) : ∀ (ch : Nat) (σ μ : Sg), ch ≤ 1700 → Bs so dl ln th us lm mk ch tl cl fl na lim σ μ → ∃ (σ' μ' : Sg) (ch' : Nat), ch' ≤ ch ∧ (∀ Q : Sg → Prop, Q σ' → wX7_undoBackTo σ (nI m) Q) ∧ (∀ K : Sg → Prop, K μ' → wX11_back μ (nI m) K) ∧ Bs so dl ln th us lm mk ch' tl cl fl na lim σ' μ' ∧ (∀ o j : Nat, o ≠ 6 → sI σ' o j = sI σ o j) ∧ (∀ o j : Nat, o ≠ 7 → sL σ' o j = sL σ o j) ∧ (∀ o j : Nat, o ≠ 6 → o ≠ 7 → o ≠ 15 → o ≠ 16 → (o ≠ 0 ∨ j ≠ 20) → sI μ' o j = sI μ o j) := by
  intro ch
  induction ch with
  | zero =>
    intro σ μ _ hB
    have hc : sI σ 6 4 = nI 0 := hB.2.2.2.2.2.2.1.2.1
    have hmc : sI μ 0 20 = nI 0 := hB.2.2.2.2.2.2.1.2.2.1
    refine ⟨σ, μ, 0, Nat.le_refl _, fun Q q => ⟨1, ?_⟩, fun K q => ⟨1, ?_⟩, hB, fun _ _ _ => rfl, fun _ _ _ => rfl, fun _ _ _ _ _ _ _ => rfl⟩
    · unfold wX7_undoBackTo_0
      exact gF (nltN m 0 rfl hc (by omega) (by omega)) q
    · unfold wX11_back_0
      exact gF (nltN m 0 rfl hmc (by omega) (by omega)) q
  | succ g ih =>
    intro σ μ hch hB
    have hc : sI σ 6 4 = nI (g + 1) := hB.2.2.2.2.2.2.1.2.1
    have hmc : sI μ 0 20 = nI (g + 1) := hB.2.2.2.2.2.2.1.2.2.1
    by_cases hlt : m < g + 1
    · obtain ⟨w, hw, w2, w3, w4, w5⟩ := hB.2.2.1 g (by omega)
      have hcad : cad so dl w < us := cad_lt hB.1 h8 hw
      have hwl := vld_lt hw
      obtain ⟨σ', μ', ch', p1, p2, p3, p4, p5, p6, p7⟩ := ih _ _ (by omega) (hB.undo1 hw w4 w5)
      refine ⟨σ', μ', ch', by omega, fun Q q => ?_, fun K q => ?_, p4, fun o j h => ?_, fun o j h => ?_, fun o j a1 a2 a3 a4 a5 => ?_⟩
      · obtain ⟨n, hn⟩ := p2 Q q
        refine ⟨n + 1, ?_⟩
        unfold wX7_undoBackTo_0
        refine gT (ltN m (g + 1) rfl hc hlt (by omega)) (gT (ltN 0 (g + 1) rfl hc (by omega) (by omega)) ?_)
        have e : sI σ 6 4 - (1 : Int32) = nI g := subN (g + 1) 1 hc rfl (by omega)
        rw [e, nI_clamp (by omega), w2, nI_clamp (by omega)]
        exact ⟨vp_in_nI (by omega) (by decide), vp_in_nI (by omega) (by decide), vp_in_nI (by omega) (by decide), hn⟩
      · obtain ⟨n, hn⟩ := p3 K q
        refine ⟨n + 1, ?_⟩
        unfold wX11_back_0
        refine gT (ltN m (g + 1) rfl hmc hlt (by omega)) ?_
        have e : sI μ 0 20 - (1 : Int32) = nI g := subN (g + 1) 1 hmc rfl (by omega)
        have hv : vp_in (nI g) 3600 := vp_in_nI (by omega) (by decide)
        rw [e, nI_clamp (by omega), w3]
        refine ⟨hv, ?_⟩
        unfold mSet at hn
        by_cases h8w : w < 8
        · rw [if_pos h8w] at hn
          have hb : vp_in (nI w) 8 := vp_in_nI h8w (by decide)
          refine gT (ltN w 8 rfl rfl h8w (by decide)) ?_
          rw [nI_clamp (by omega)]
          exact ⟨hv, hb, hv, hb, hn⟩
        · rw [if_neg h8w] at hn
          have hb : vp_in (nI (w - 8)) 3520 := vp_in_nI (by omega) (by decide)
          refine gF (nltN w 8 rfl rfl (by omega) (by omega)) ?_
          rw [show nI w - (8 : Int32) = nI (w - 8) from subN w 8 rfl rfl (by omega), nI_clamp (by omega)]
          exact ⟨hv, hb, hv, hb, hn⟩
      · rw [p5 o j h, sI_wL, i_o h]
      · rw [p6 o j h, l_o h, sL_wI]
      · rw [p7 o j a1 a2 a3 a4 a5, mSet_I _ _ _ _ _ _ a1 a2 a3 a4, sI_wI, if_neg (by omega)]
    · refine ⟨σ, μ, g + 1, Nat.le_refl _, fun Q q => ⟨1, ?_⟩, fun K q => ⟨1, ?_⟩, hB, fun _ _ _ => rfl, fun _ _ _ => rfl, fun _ _ _ _ _ _ _ => rfl⟩
      · unfold wX7_undoBackTo_0
        exact gF (nltN m (g + 1) rfl hc (by omega) (by omega)) q
      · unfold wX11_back_0
        exact gF (nltN m (g + 1) rfl hmc (by omega) (by omega)) q
end UN
