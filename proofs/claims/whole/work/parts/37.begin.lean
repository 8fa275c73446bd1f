theorem cap_leaf {k : Nat} (h : k < 32) (hl : leaf k = false) : 1 ≤ cap k ∧ 1 ≤ nps k := by
  have : ∀ k, k < 32 → leaf k = false → 1 ≤ cap k ∧ 1 ≤ nps k := by decide
  exact this k h hl
theorem leaf_not {k : Nat} (hl : leaf k = false) : k ≠ 0 ∧ k ≠ 1 ∧ k ≠ 2 ∧ k ≠ 27 ∧ k ≠ 30 := by
  refine ⟨?_, ?_, ?_, ?_, ?_⟩ <;> rintro rfl <;> exact absurd hl (by decide)
theorem ps0_b {k : Nat} (h : k < 32) (hl : leaf k = false) : ps0 k = if k = 25 ∨ k = 31 then 1 else 0 := by
  have : ∀ k, k < 32 → leaf k = false → ps0 k = if k = 25 ∨ k = 31 then 1 else 0 := by decide
  exact this k h hl
section MB
variable {μ : Sg} {K : Sg → Prop} {a f k s lim N : Nat}
def mPush (μ : Sg) (N a f s : Nat) : Sg := wI (wI (wI (wI (wI (wI μ 0 45 (nI (s + 1))) 21 N (nI a)) 22 N 0) 23 N (nI f)) 28 N (sI μ 0 20)) 0 26 (nI (N + 1))
theorem m_begin_push (hs : sI μ 0 45 = nI s) (hl : sI μ 0 46 = nI lim) (hsl : s < lim) (hb : lim ≤ 200) (h37 : sI μ 0 37 = nI a) (h38 : sI μ 0 38 = nI f) (ha : a < 60) (hk : sI μ 1 a = nI k) (hk32 : k < 32) (hlf : leaf k = false) (h26 : sI μ 0 26 = nI N) (hN : N < 220) (q : K (mStart (mPush μ N a f s) (arg μ (ps0 k) a) (nI f))) : wX11_begin μ K := by
  obtain ⟨n0, n1, n2, n27, n30⟩ := leaf_not hlf
  have ne : ∀ c : Nat, c < 100 → k ≠ c → ¬ nI k = nI c := fun c hc h => neN k c rfl rfl h (by omega) (by omega)
  have hv : vp_in (nI a) 60 := vp_in_nI ha (by decide)
  have hw : vp_in (nI N) 220 := vp_in_nI hN (by decide)
  unfold wX11_begin
  refine gF (neN s lim hs hl (by omega) (by omega) (by omega)) ?_
  rw [hs, h37, h38, h26, nI_clamp (by omega), nI_clamp (by omega), hk, nI_1, nI_1]
  refine ⟨hv, gS (ne 0 (by decide) n0) (gS (ne 1 (by decide) n1) (gS (ne 2 (by decide) n2) (gS (ne 27 (by decide) n27) (gS (ne 30 (by decide) n30) ?_))))⟩
  intro _ _ _ _ _
  refine ⟨hw, hw, hw, hw, hv, ?_⟩
  rw [ps0_b hk32 hlf] at q
  unfold wX11_begin_309 wX11_begin_324
  by_cases h25 : k = 25
  · subst h25
    refine gT rfl ⟨hv, ?_⟩
    rw [nI_clamp (by omega)]
    exact q
  · refine gF (ne 25 (by decide) h25) ⟨hv, ?_⟩
    by_cases h31 : k = 31
    · subst h31
      refine gT rfl ⟨hv, ?_⟩
      rw [nI_clamp (by omega)]
      exact q
    · refine gF (ne 31 (by decide) h31) ⟨hv, ?_⟩
      rw [if_neg (by omega)] at q
      exact q
theorem m_begin_spent (hs : sI μ 0 45 = nI s) (hl : sI μ 0 46 = nI s) (q : K (mGo μ 3 9 0 (sI μ 0 37))) : wX11_begin μ K := by
  unfold wX11_begin
  exact gT (hs.trans hl.symm) (m_finish q)
end MB
section BO
variable {so dl ln : Nat → Nat} {th us lm mk ch tl cl fl na s lim N a f φ : Nat} {σ μ : Sg}
/-- an act begins, above N entries that wait -/
theorem begin_ok {Q : Sg → Prop} (hB : Bs so dl ln th us lm mk ch tl cl fl na lim σ μ) (hRA : RA na σ μ) (hs : sI σ 10 1 = nI s) (hbd : Bd th us lm mk ch tl cl s lim N) (hW : ∀ i, i < N → Ent so dl th na mk σ μ i) (hcl : Cn cl ch s (17 * N) σ μ N) (hfl : fl ≤ 20) (hC : Cc N 0 0 (-1) σ) (hφ : 4 * (lim - s) + 2 * N + 1 ≤ φ + 1) (ha : a < na) (hf : f < mk) (m45 : sI μ 0 45 = nI s) (m26 : sI μ 0 26 = nI N) (m36 : sI μ 0 36 = 0) (m37 : sI μ 0 37 = nI a) (m38 : sI μ 0 38 = nI f) (kk : ∀ σ' μ', MR μ μ' → Rr φ σ' μ' → Q σ') : wX6_begin σ (nI a) (nI f) Q := by
  obtain ⟨c8, c9, c3, c4, c5⟩ := hC
  have hl : sI σ 10 0 = nI lim := hB.2.2.2.2.2.2.2.1.2.2.2.2.2.2.1
  have hml : sI μ 0 46 = nI lim := hB.2.2.2.2.2.2.2.1.2.2.2.2.2.2.2
  have hch : sI σ 6 4 = nI ch := hB.2.2.2.2.2.2.1.2.1
  have hmch : sI μ 0 20 = nI ch := hB.2.2.2.2.2.2.1.2.2.1
  have hbd' := hbd
  obtain ⟨e1, e2, e3, e4, e5, e6, e7, e8, e9, e10, e11⟩ := hbd
  have ha60 : a < 60 := Nat.lt_of_lt_of_le ha hRA.2.2.1
  obtain ⟨k, hk32, hk, -⟩ := hRA.2.2.2 a ha
  refine c_begin hs hl e10 e9 c8 (by omega) (fun hlt => ?_) (fun heq => ?_)
  · rw [hch]
    cases hlf : leaf k with
    | true =>
      refine kk _ μ MR.rf (Or.inl ?_)
      refine ⟨so, dl, ln, th, us, lm, mk, ch, tl, cl, fl, na, s + 1, lim, N, a, f, k, ⟨hB, ⟨by omega, by omega, by omega, by omega, by omega, e6, e7, e8, by omega, e10, e11⟩, hRA, rfl, fun i hi => ?_⟩, ?_, hfl, ⟨rfl, rfl, c3, c4, c5⟩, by omega, ha, hf, hlf, hk, hk32, ?_, ?_, ?_, by omega, by rw [show s + 1 - 1 = s by omega]; exact m45, m26, m36, m37, m38⟩
      · refine (hW i hi).frame (fun o h1 h2 => ?_) (fun w hw => rfl) (fun _ _ _ => rfl) (fun _ => rfl) (Nat.le_refl _) (fun _ _ => rfl) (fun _ _ => rfl) (Nat.le_refl _)
        simp only [cPush, sI_wI]
        rw [if_neg (by omega), if_neg (by omega), if_neg (by omega), if_neg (by omega), if_neg (by omega), if_neg (by omega), if_neg (by omega), if_neg (by omega)]
      · refine hcl.fr (by omega) (fun i hi => ?_) (fun i hi => ?_) (fun _ => rfl) <;> simp only [cPush, sI_wI] <;> rw [if_neg (by omega), if_neg (by omega), if_neg (by omega), if_neg (by omega), if_neg (by omega), if_neg (by omega), if_neg (by omega), if_neg (by omega)]
      · simp [cPush, sI_wI]
      · simp [cPush, sI_wI]
      · simp [cPush, sI_wI]
    | false =>
      obtain ⟨g1, g2⟩ := cap_leaf hk32 hlf
      refine kk _ (mStart (mPush μ N a f s) (arg μ (ps0 k) a) (nI f)) (ms_begin m36 (fun K q => m_begin_push m45 hml hlt e10 m37 m38 ha60 hk hk32 hlf m26 (by omega) q)) (Or.inr (Or.inl ?_))
      refine ⟨so, dl, ln, th, us, lm, mk, ch, tl, cl, fl, na, s + 1, lim, N, a, f, k, 0, ch, ⟨hB, ⟨by omega, by omega, by omega, by omega, by omega, e6, e7, e8, by omega, e10, e11⟩, hRA, rfl, fun i hi => ?_⟩, ?_, ?_, hfl, ⟨rfl, rfl, c3, c4, c5⟩, by omega, Or.inl rfl, rfl, rfl, rfl, rfl, rfl⟩
      · refine (hW i hi).frame (fun o h1 h2 => ?_) (fun w hw => rfl) (fun o h1 h2 => ?_) (fun _ => rfl) (Nat.le_refl _) (fun _ _ => rfl) (fun _ _ => rfl) (Nat.le_refl _)
        · simp only [cPush, sI_wI]
          rw [if_neg (by omega), if_neg (by omega), if_neg (by omega), if_neg (by omega), if_neg (by omega), if_neg (by omega), if_neg (by omega), if_neg (by omega)]
        · simp only [mStart, mPush, sI_wI]
          rw [if_neg (by omega), if_neg (by omega), if_neg (by omega), if_neg (by omega), if_neg (by omega), if_neg (by omega), if_neg (by omega), if_neg (by omega), if_neg (by omega)]
      · refine ⟨ha, hf, hk32, by omega, by omega, ?_, ?_, ?_, ?_, hk, ?_, ?_, ?_, Or.inl ⟨?_, ?_, fun h => absurd h (by omega), fun h => absurd h (by omega), fun _ h => absurd h (by omega)⟩⟩
        · simp [cPush, sI_wI]
        · simp [mStart, mPush, sI_wI]
        · simp [cPush, sI_wI]
        · simp [mStart, mPush, sI_wI]
        · simp [cPush, sI_wI]
        · simp [mStart, mPush, sI_wI, hmch]
        · simp [cPush, sI_wI, nI_0]
        · simp [cPush, sI_wI]
        · simp [mStart, mPush, sI_wI, nI_0]
      · refine hcl.fr (by omega) (fun i hi => ?_) (fun i hi => ?_) (fun _ => rfl) <;> simp only [cPush, sI_wI] <;> rw [if_neg (by omega), if_neg (by omega), if_neg (by omega), if_neg (by omega), if_neg (by omega), if_neg (by omega), if_neg (by omega), if_neg (by omega)]
  · subst heq
    refine kk _ (mGo μ 3 9 0 (sI μ 0 37)) (ms_begin m36 (fun K q => m_begin_spent m45 hml q)) (Or.inr (Or.inr (Or.inr (Or.inl ?_))))
    exact ⟨so, dl, ln, th, us, lm, mk, ch, tl, cl, fl, na, s, s, N, 9, ⟨hB, hbd', hRA, hs, hW⟩, hcl, by omega, by omega, by omega, by omega, ⟨c8, c9, rfl, rfl, rfl⟩, by rw [if_neg (by omega)]; omega, m45, m26, rfl, rfl, rfl, m37⟩
end BO
