section ME
variable {so dl ln so' dl' ln' : Nat → Nat} {th th' us lm mk ch tl cl fl na lim w : Nat} {σ μ : Sg} {v : Int64} {t x : Int32}
theorem Th.set {sz : Nat → Int32} {cells cells' : Nat → Int64} (h : Th so dl ln th us lm sz cells) (hw : vld so ln th w) (hc : ∀ c, c ≠ cad so dl w → cells' c = cells c) : Th so dl ln th us lm sz cells' := by
  refine ⟨fun k hk => ?_, h.2⟩
  obtain ⟨a, b, c, d⟩ := h.1 k hk
  refine ⟨a, b, fun h4 => ?_, d⟩
  obtain ⟨g1, g2, g3, g4, g5⟩ := c h4
  exact ⟨g1, g2, g3, g4, by rw [hc _ (Ne.symm (cad_hdr h hw hk h4))]; exact g5⟩
theorem Mm.set {sz : Nat → Int32} {cells cells' : Nat → Int64} {mt mn mt' mn' : Nat → Int32} (h : Mm so dl ln th cells mt mn) (hT : Th so dl ln th us lm sz cells) (hw : vld so ln th w) (hV : V so dl th v t x) (ht : typ so w t) (hc : ∀ c, cells' c = if c = cad so dl w then v else cells c) (hmt : ∀ y, mt' y = if y = w then t else mt y) (hmn : ∀ y, mn' y = if y = w then x else mn y) : Mm so dl ln th cells' mt' mn' := by
  intro y hy
  rw [hc, hmt, hmn]
  by_cases e : y = w
  · subst e
    rw [if_pos rfl, if_pos rfl, if_pos rfl]
    exact ⟨hV, ht⟩
  · rw [if_neg (fun q => e (cad_inj hT hy hw q)), if_neg e, if_neg e]
    exact h y hy
theorem mT_set (μ : Sg) (w y : Nat) (t x : Int32) : mT (mSet μ w t x) y = if y = w then t else mT μ y := by
  unfold mSet mT
  by_cases h8 : w < 8
  · rw [if_pos h8]
    by_cases y8 : y < 8
    · rw [if_pos y8, if_pos y8]
      simp only [sI_wI]
      by_cases e : y = w
      · simp [e]
      · simp [e]
    · rw [if_neg y8, if_neg y8, if_neg (by omega)]
      simp [sI_wI]
  · rw [if_neg h8]
    by_cases y8 : y < 8
    · rw [if_pos y8, if_pos y8, if_neg (by omega)]
      simp [sI_wI]
    · rw [if_neg y8, if_neg y8]
      simp only [sI_wI]
      by_cases e : y = w
      · simp [e]
      · have : ¬ y - 8 = w - 8 := by omega
        simp [e, this]
theorem mN_set (μ : Sg) (w y : Nat) (t x : Int32) : mN (mSet μ w t x) y = if y = w then x else mN μ y := by
  unfold mSet mN
  by_cases h8 : w < 8
  · rw [if_pos h8]
    by_cases y8 : y < 8
    · rw [if_pos y8, if_pos y8]
      simp only [sI_wI]
      by_cases e : y = w
      · simp [e]
      · simp [e]
    · rw [if_neg y8, if_neg y8, if_neg (by omega)]
      simp [sI_wI]
  · rw [if_neg h8]
    by_cases y8 : y < 8
    · rw [if_pos y8, if_pos y8, if_neg (by omega)]
      simp [sI_wI]
    · rw [if_neg y8, if_neg y8]
      simp only [sI_wI]
      by_cases e : y = w
      · simp [e]
      · have : ¬ y - 8 = w - 8 := by omega
        simp [e, this]
theorem mSet_I (μ : Sg) (w o j : Nat) (t x : Int32) (h6 : o ≠ 6) (h7 : o ≠ 7) (h15 : o ≠ 15) (h16 : o ≠ 16) : sI (mSet μ w t x) o j = sI μ o j := by
  unfold mSet
  by_cases h8 : w < 8
  · rw [if_pos h8, i_o h16, i_o h15]
  · rw [if_neg h8, i_o h7, i_o h6]
theorem mWrite_I (μ : Sg) (g w o j : Nat) (t x : Int32) (h6 : o ≠ 6) (h7 : o ≠ 7) (h15 : o ≠ 15) (h16 : o ≠ 16) (h17 : o ≠ 17) (h18 : o ≠ 18) (h19 : o ≠ 19) (h0 : o ≠ 0 ∨ j ≠ 20) : sI (mWrite μ g w t x) o j = sI μ o j := by
  unfold mWrite
  rw [sI_wI, if_neg (by omega), mSet_I _ _ _ _ _ _ h6 h7 h15 h16]
  unfold mLog
  rw [i_o h19, i_o h18, i_o h17]
/-- both memories get a value at the same place -/
theorem Bs.write (hB : Bs so dl ln th us lm mk ch tl cl fl na lim σ μ) (hw : vld so ln th w) (hV : V so dl th v t x) (ht : typ so w t) : Bs so dl ln th us lm mk (ch + 1) tl cl fl na lim (cWrite σ ch (cad so dl w) v) (mWrite μ ch w t x) := by
  obtain ⟨b1, b2, b3, b4, b5, b6, ⟨c1, c2, c3, c4, c5, c6, c7⟩, ⟨d1, d2, d3, d4, d5, d6, d7, d8⟩, b9, b10⟩ := hB
  have R : ∀ o j : Nat, o ≠ 6 → o ≠ 7 → o ≠ 15 → o ≠ 16 → o ≠ 17 → o ≠ 18 → o ≠ 19 → (o ≠ 0 ∨ j ≠ 20) → sI (mWrite μ ch w t x) o j = sI μ o j := fun o j => mWrite_I μ ch w o j t x
  have F : ∀ o : Nat, o ≠ 6 → o ≠ 7 → o ≠ 15 → o ≠ 16 → o ≠ 17 → o ≠ 18 → o ≠ 19 → o ≠ 0 → sI (mWrite μ ch w t x) o = sI μ o := fun o a1 a2 a3 a4 a5 a6 a7 a8 => funext (fun j => R o j a1 a2 a3 a4 a5 a6 a7 (Or.inl a8))
  have cc : ∀ c, sL (cWrite σ ch (cad so dl w) v) 7 c = if c = cad so dl w then v else sL σ 7 c := by
    intro c
    simp only [cWrite, sL_wL, sL_wI]
    by_cases e : c = cad so dl w
    · simp [e]
    · simp [e]
  have mt : ∀ y, mT (mWrite μ ch w t x) y = if y = w then t else mT μ y := by
    intro y
    have e1 : mT (mWrite μ ch w t x) y = mT (mSet (mLog μ ch w) w t x) y := by
      unfold mWrite mT
      split <;> rw [i_o (by decide)]
    have e2 : mT (mLog μ ch w) y = mT μ y := by
      unfold mLog mT
      split <;> rw [i_o (by decide), i_o (by decide), i_o (by decide)]
    rw [e1, mT_set, e2]
  have mn : ∀ y, mN (mWrite μ ch w t x) y = if y = w then x else mN μ y := by
    intro y
    have e1 : mN (mWrite μ ch w t x) y = mN (mSet (mLog μ ch w) w t x) y := by
      unfold mWrite mN
      split <;> rw [i_o (by decide)]
    have e2 : mN (mLog μ ch w) y = mN μ y := by
      unfold mLog mN
      split <;> rw [i_o (by decide), i_o (by decide), i_o (by decide)]
    rw [e1, mN_set, e2]
  refine ⟨?_, ?_, ?_, ?_, ?_, ?_, ⟨c1, ?_, ?_, c4, ?_, c6, ?_⟩, ⟨d1, ?_, d3, ?_, d5, ?_, d7, ?_⟩, ?_, b10⟩
  · rw [F 5 (by decide) (by decide) (by decide) (by decide) (by decide) (by decide) (by decide) (by decide)]
    exact b1.set hw (fun c hc => by rw [cc, if_neg hc])
  · exact b2.set b1 hw hV ht cc mt mn
  · intro j hj
    by_cases e : j = ch
    · subst e
      refine ⟨w, hw, ?_, ?_, ?_, ?_⟩
      · simp [cWrite, sI_wI, sI_wL]
      · unfold mWrite mLog
        rw [sI_wI, if_neg (by omega), mSet_I _ _ _ _ _ _ (by decide) (by decide) (by decide) (by decide)]
        simp [sI_wI]
      · have e9 : sL (cWrite σ j (cad so dl w) v) 9 j = sL σ 7 (cad so dl w) := by simp [cWrite, sL_wL, sL_wI]
        have e18 : sI (mWrite μ j w t x) 18 j = mT μ w := by
          unfold mWrite mLog
          rw [sI_wI, if_neg (by omega), mSet_I _ _ _ _ _ _ (by decide) (by decide) (by decide) (by decide)]
          simp [sI_wI]
        have e19 : sI (mWrite μ j w t x) 19 j = mN μ w := by
          unfold mWrite mLog
          rw [sI_wI, if_neg (by omega), mSet_I _ _ _ _ _ _ (by decide) (by decide) (by decide) (by decide)]
          simp [sI_wI]
        rw [e9, e18, e19]
        exact (b2 w hw).1
      · have e18 : sI (mWrite μ j w t x) 18 j = mT μ w := by
          unfold mWrite mLog
          rw [sI_wI, if_neg (by omega), mSet_I _ _ _ _ _ _ (by decide) (by decide) (by decide) (by decide)]
          simp [sI_wI]
        rw [e18]
        exact (b2 w hw).2
    · obtain ⟨y, g1, g2, g3, g4, g5⟩ := b3 j (by omega)
      have e8 : sI (cWrite σ ch (cad so dl w) v) 8 j = sI σ 8 j := by simp [cWrite, sI_wI, sI_wL, e]
      have e9 : sL (cWrite σ ch (cad so dl w) v) 9 j = sL σ 9 j := by simp [cWrite, sL_wL, sL_wI, e]
      have em : ∀ o, o = 17 ∨ o = 18 ∨ o = 19 → sI (mWrite μ ch w t x) o j = sI μ o j := by
        intro o ho
        unfold mWrite mLog
        rw [sI_wI, if_neg (by omega), mSet_I _ _ _ _ _ _ (by omega) (by omega) (by omega) (by omega)]
        rw [i_j e, i_j e, i_j e]
      rw [e8, e9, em 17 (by omega), em 18 (by omega), em 19 (by omega)]
      exact ⟨y, g1, g2, g3, g4, g5⟩
  · rw [F 13 (by decide) (by decide) (by decide) (by decide) (by decide) (by decide) (by decide) (by decide), F 14 (by decide) (by decide) (by decide) (by decide) (by decide) (by decide) (by decide) (by decide)]
    intro j hj
    have : sL (cWrite σ ch (cad so dl w) v) 13 j = sL σ 13 j := by simp [cWrite, sL_wL, sL_wI]
    rw [this]
    exact b4 j hj
  · rw [F 8 (by decide) (by decide) (by decide) (by decide) (by decide) (by decide) (by decide) (by decide), F 9 (by decide) (by decide) (by decide) (by decide) (by decide) (by decide) (by decide) (by decide), F 10 (by decide) (by decide) (by decide) (by decide) (by decide) (by decide) (by decide) (by decide), F 11 (by decide) (by decide) (by decide) (by decide) (by decide) (by decide) (by decide) (by decide), F 12 (by decide) (by decide) (by decide) (by decide) (by decide) (by decide) (by decide) (by decide)]
    exact b5
  · rw [F 20 (by decide) (by decide) (by decide) (by decide) (by decide) (by decide) (by decide) (by decide)]
    exact b6
  · simp [cWrite, sI_wI, sI_wL]
  · simp [mWrite, sI_wI]
  · rw [R 0 15 (by decide) (by decide) (by decide) (by decide) (by decide) (by decide) (by decide) (by decide)]; exact c5
  · rw [R 0 6 (by decide) (by decide) (by decide) (by decide) (by decide) (by decide) (by decide) (by decide)]; exact c7
  · rw [R 0 24 (by decide) (by decide) (by decide) (by decide) (by decide) (by decide) (by decide) (by decide)]; exact d2
  · rw [R 0 47 (by decide) (by decide) (by decide) (by decide) (by decide) (by decide) (by decide) (by decide)]; exact d4
  · rw [R 0 44 (by decide) (by decide) (by decide) (by decide) (by decide) (by decide) (by decide) (by decide)]; exact d6
  · rw [R 0 46 (by decide) (by decide) (by decide) (by decide) (by decide) (by decide) (by decide) (by decide)]; exact d8
  · rw [R 0 5 (by decide) (by decide) (by decide) (by decide) (by decide) (by decide) (by decide) (by decide)]; exact b9
end ME
