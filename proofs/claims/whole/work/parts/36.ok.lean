theorem bs_mono {a b : Nat} (h : a = b) : nI a = nI b := by rw [h]
theorem isCl_iff {so dl : Nat → Nat} {th na mk n a f k j m : Nat} {σ μ : Sg} (hE : EntP so dl th na mk σ μ n a f k j m) (hna : na ≤ 60) : (isCl σ μ n = true) ↔ (k = 25 ∧ j = 1) := by
  have hk32 := hE.2.2.1
  have hj3 : j < 3 := Nat.lt_of_lt_of_le hE.2.2.2.1 (cap3 hk32)
  have hac : a < 60 := Nat.lt_of_lt_of_le hE.1 hna
  have ha : sI σ 22 n = nI a := hE.2.2.2.2.2.1
  have hak : sI μ 1 a = nI k := hE.2.2.2.2.2.2.2.2.2.1
  have hj : sI σ 24 n = nI j := hE.2.2.2.2.2.2.2.2.2.2.2.2.1
  unfold isCl
  rw [ha, hj, nI_clamp (by omega), hak, decide_eq_true_eq]
  constructor
  · rintro ⟨g1, g2⟩
    exact ⟨eqN g1 (by omega) (by decide), eqN g2 (by omega) (by decide)⟩
  · rintro ⟨rfl, rfl⟩
    exact ⟨rfl, rfl⟩
theorem cnt_ent {so dl : Nat → Nat} {th na mk n a f k j m : Nat} {σ μ : Sg} (hE : EntP so dl th na mk σ μ n a f k j m) (hna : na ≤ 60) : cnt (isCl σ μ) (n + 1) = cnt (isCl σ μ) n + (if k = 25 ∧ j = 1 then 1 else 0) := by
  show cnt (isCl σ μ) n + _ = _
  congr 1
  by_cases hc : k = 25 ∧ j = 1
  · rw [if_pos hc, if_pos ((isCl_iff hE hna).mpr hc)]
  · rw [if_neg hc, if_neg (fun g => hc ((isCl_iff hE hna).mp g))]
theorem isCp_iff {so dl : Nat → Nat} {th na mk n a f k j m : Nat} {σ μ : Sg} (hE : EntP so dl th na mk σ μ n a f k j m) (hna : na ≤ 60) : (isCp σ μ n = true) ↔ (k = 19 ∧ 1 ≤ j) := by
  have hk32 := hE.2.2.1
  have hj3 : j < 3 := Nat.lt_of_lt_of_le hE.2.2.2.1 (cap3 hk32)
  have hac : a < 60 := Nat.lt_of_lt_of_le hE.1 hna
  have ha : sI σ 22 n = nI a := hE.2.2.2.2.2.1
  have hak : sI μ 1 a = nI k := hE.2.2.2.2.2.2.2.2.2.1
  have hj : sI σ 24 n = nI j := hE.2.2.2.2.2.2.2.2.2.2.2.2.1
  unfold isCp
  rw [ha, hj, nI_clamp (by omega), hak, decide_eq_true_eq]
  constructor
  · rintro ⟨g1, g2⟩
    refine ⟨eqN g1 (by omega) (by decide), Nat.pos_of_ne_zero (fun e => g2 ?_)⟩
    rw [e]
    rfl
  · rintro ⟨rfl, g2⟩
    exact ⟨rfl, neN j 0 rfl rfl (by omega) (by omega) (by decide)⟩
theorem cntp_ent {so dl : Nat → Nat} {th na mk n a f k j m : Nat} {σ μ : Sg} (hE : EntP so dl th na mk σ μ n a f k j m) (hna : na ≤ 60) : cnt (isCp σ μ) (n + 1) = cnt (isCp σ μ) n + (if k = 19 ∧ 1 ≤ j then 1 else 0) := by
  show cnt (isCp σ μ) n + _ = _
  congr 1
  by_cases hc : k = 19 ∧ 1 ≤ j
  · rw [if_pos hc, if_pos ((isCp_iff hE hna).mpr hc)]
  · rw [if_neg hc, if_neg (fun g => hc ((isCp_iff hE hna).mp g))]
theorem Cn.top {so dl : Nat → Nat} {th na mk n a f k j m cl ch s : Nat} {σ μ : Sg} (h : Cn cl ch s (17 * (n + 1) + 15) σ μ (n + 1)) (hE : EntP so dl th na mk σ μ n a f k j m) (hna : na ≤ 60) : CnV cl ch s σ μ n k j := by
  obtain ⟨h1, h2⟩ := h
  rw [cnt_ent hE hna] at h1
  rw [cntp_ent hE hna] at h2
  exact ⟨h1, h2⟩
theorem Cn.push {so dl : Nat → Nat} {th na mk n a f k j m cl ch s e e' : Nat} {σ μ : Sg} (h : Cn cl ch s e σ μ n) (hE : EntP so dl th na mk σ μ n a f k j m) (hna : na ≤ 60) (h25 : ¬ (k = 25 ∧ j = 1)) (he : e' + (if k = 19 ∧ 1 ≤ j then 15 else 0) ≤ e) : Cn cl ch s e' σ μ (n + 1) := by
  obtain ⟨h1, h2⟩ := h
  refine ⟨?_, ?_⟩
  · rw [cnt_ent hE hna, if_neg h25]
    exact h1
  · rw [cntp_ent hE hna]
    by_cases hc : k = 19 ∧ 1 ≤ j
    · rw [if_pos hc]
      rw [if_pos hc] at he
      omega
    · rw [if_neg hc]
      rw [if_neg hc] at he
      omega
theorem Cn.down {cl ch s e n : Nat} {σ μ : Sg} (h : Cn cl ch s e σ μ (n + 1)) (h1 : cl = cnt (isCl σ μ) n) : Cn cl ch s e σ μ n := ⟨h1, by
  have h2 := h.2
  have := cnt_up (P := isCp σ μ) n
  omega⟩
section OK
variable {so dl ln : Nat → Nat} {th us lm mk ch tl cl fl na s lim n N a f k j m q φ : Nat} {σ μ : Sg}
/-- the topmost entry, at n, gives v: both go on with the entry below, or the run is done -/
theorem give_ok {v : Int64} {Q : Sg → Prop} (hB : Bs so dl ln th us lm mk ch tl cl fl na lim σ μ) (hRA : RA na σ μ) (hs : sI σ 10 1 = nI s) (hbd : Bd th us lm mk ch tl cl s lim n ∧ Xv (sI μ 0 39) us mk cl s n) (hW : ∀ i, i < n → Ent so dl th na mk σ μ i) (hcl : Cn cl ch s (17 * n + 15) σ μ n) (hfl : fl ≤ 20) (h9 : sI σ 21 9 = nI n) (hn : n < 200) (h3 : sI σ 10 3 = 0) (h4 : sI σ 10 4 = 0) (h5 : sI σ 10 5 = -1) (hφ : 4 * (lim - s) + 2 * n + 1 ≤ φ) (m45 : sI μ 0 45 = nI s) (m26 : sI μ 0 26 = nI n) (m36 : sI μ 0 36 = 1) (hV : V so dl th v (sI μ 0 39) (sI μ 0 40)) (kk : ∀ σ', Rr φ σ' μ → Q σ') : wX6_give σ v Q := by
  cases n with
  | zero =>
    refine c_give0 h9 (kk _ ?_)
    refine Or.inr (Or.inr (Or.inr (Or.inr (Or.inr ?_))))
    refine ⟨so, dl, ln, th, us, lm, mk, ch, tl, cl, fl, na, s, lim, v, ⟨?_, hbd.1, hRA, hs, fun i hi => absurd hi (by omega)⟩, hfl, ⟨rfl, rfl, h3, h4, h5⟩, rfl, m45, m26, m36, hV⟩
    obtain ⟨b1, b2, b3, b4, b5, b6, b7, b8, b9, b10⟩ := hB
    exact ⟨b1, b2, b3, b4, b5, b6, b7, b8, b9, rfl⟩
  | succ n =>
    obtain ⟨a, f, k, j, m, hE⟩ := hW n (by omega)
    have hj : sI σ 24 n = nI j := hE.2.2.2.2.2.2.2.2.2.2.2.2.1
    have hj3 : j < 3 := Nat.lt_of_lt_of_le hE.2.2.2.1 (cap3 hE.2.2.1)
    have ha : sI σ 22 n = nI a := hE.2.2.2.2.2.1
    have hak : sI μ 1 a = nI k := hE.2.2.2.2.2.2.2.2.2.1
    refine c_give h9 hn hj hj3 (kk _ ?_)
    refine Or.inr (Or.inr (Or.inl ?_))
    refine ⟨so, dl, ln, th, us, lm, mk, ch, tl, cl, fl, na, s, lim, n, a, f, k, j, m, ⟨hB, hbd.1, hRA, hs, fun i hi => ?_⟩, ?_, ?_, ?_, hfl, ⟨rfl, rfl, h3, h4, h5⟩, by omega, m45, m26, m36, ?_, hbd.2⟩
    · refine (hW i (by omega)).frame (fun o h1 h2 => ?_) (fun w hw => ?_) (fun _ _ _ => rfl) (fun _ => rfl) (Nat.le_refl _) (fun _ _ => rfl) (fun _ _ => rfl) (Nat.le_refl _)
      · simp only [cTake, cPop, sI_wI, sI_wL]
        rw [if_neg (by omega), if_neg (by omega), if_neg (by omega)]
      · simp only [cTake, cPop, sL_wI, sL_wL]
        rw [if_neg (by omega)]
    · refine hE.frame (fun o h1 h2 => ?_) (fun w hw => ?_) (fun _ _ _ => rfl) (fun _ => rfl) (Nat.le_refl _) (fun _ _ => rfl) (fun _ _ => rfl) (Nat.le_refl _)
      · simp only [cTake, cPop, sI_wI, sI_wL]
        by_cases h24 : o = 24
        · subst h24
          rw [if_pos (by simp), hj]
        · rw [if_neg (by omega), if_neg (by omega), if_neg (by omega), if_neg (by omega)]
      · simp only [cTake, cPop, sL_wI, sL_wL]
        rw [if_neg (by omega)]
    · simp only [cTake, sI_wI]
      rw [if_pos (by simp)]
    · refine (hcl.top hE hRA.2.2.1).fr (fun i hi => ?_) (fun i hi => ?_) (fun _ => rfl)
      · simp only [cTake, cPop, sI_wI, sI_wL]
        rw [if_neg (by omega), if_neg (by omega), if_neg (by omega)]
      · simp only [cTake, cPop, sI_wI, sI_wL]
        rw [if_neg (by omega), if_neg (by omega), if_neg (by omega)]
    · have e : sL (cTake (cPop σ (n + 1)) n j v) 25 (3 * n + j) = v := by
        simp only [cTake, sL_wI, sL_wL]
        rw [if_pos (by simp)]
      rw [e]
      exact hV
/-- the topmost entry, at n, is left by a failure -/
theorem fail_R {e : Nat} {c : Int32} (hB : Bs so dl ln th us lm mk ch tl cl fl na lim σ μ) (hRA : RA na σ μ) (hs : sI σ 10 1 = nI s) (hbd : Bd th us lm mk ch tl cl s lim n) (hW : ∀ i, i < n → Ent so dl th na mk σ μ i) (hcl : Cn cl ch s (17 * n) σ μ n) (hfl : fl ≤ 20) (he1 : 1 ≤ e) (he8 : e ≤ 8) (hφ : 4 * (lim - s) + 2 * n + 2 ≤ φ) (m45 : sI μ 0 45 = nI s) (m26 : sI μ 0 26 = nI n) (x : Int32) : Rr φ (cArise (cPop σ n) fl (nI e) c x) (mFail μ fl (nI e) c x) := by
  refine Or.inr (Or.inr (Or.inr (Or.inl ?_)))
  obtain ⟨b1, b2, b3, b4, b5, b6, b7, ⟨d1, d2, d3, d4, d5, d6, d7, d8⟩, b9, b10⟩ := hB
  unfold cArise mFail
  by_cases h20 : 20 < fl + 1
  · rw [if_pos h20, if_pos h20]
    refine ⟨so, dl, ln, th, us, lm, mk, ch, tl, cl, fl + 1, na, s, lim, n, 10, ⟨⟨b1, b2, b3, b4, b5, b6, b7, ⟨d1, d2, d3, d4, rfl, rfl, d7, d8⟩, b9, b10⟩, hbd, hRA, hs, hW⟩, hcl, by omega, by omega, by omega, by omega, ⟨rfl, rfl, rfl, rfl, rfl⟩, by simp only [show ¬ 10 < 9 by omega, if_false]; omega, m45, m26, rfl, rfl, rfl, rfl⟩
  · rw [if_neg h20, if_neg h20]
    refine ⟨so, dl, ln, th, us, lm, mk, ch, tl, cl, fl + 1, na, s, lim, n, e, ⟨⟨b1, b2, b3, b4, b5, b6, b7, ⟨d1, d2, d3, d4, rfl, rfl, d7, d8⟩, b9, b10⟩, hbd, hRA, hs, hW⟩, hcl, he1, by omega, by omega, by omega, ⟨rfl, rfl, rfl, rfl, rfl⟩, by rw [if_pos (by omega)]; exact hφ, m45, m26, by rw [if_pos (by omega)]; rfl, rfl, rfl, rfl⟩
/-- the run ends at the topmost entry, at n -/
theorem end_R (hB : Bs so dl ln th us lm mk ch tl cl fl na lim σ μ) (hRA : RA na σ μ) (hs : sI σ 10 1 = nI s) (hbd : Bd th us lm mk ch tl cl s lim n) (hW : ∀ i, i < n → Ent so dl th na mk σ μ i) (hcl : Cn cl ch s (17 * n) σ μ n) (hfl : fl ≤ 21) (hq9 : 9 ≤ q) (hq12 : q ≤ 12) (hφ : 4 * (lim - s) + 2 * n ≤ φ) (m45 : sI μ 0 45 = nI s) (m26 : sI μ 0 26 = nI n) (x : Int32) : Rr φ (cGo (cPop σ n) (nI q) 0 x) (mGo μ 3 (nI q) 0 x) := by
  refine Or.inr (Or.inr (Or.inr (Or.inl ?_)))
  exact ⟨so, dl, ln, th, us, lm, mk, ch, tl, cl, fl, na, s, lim, n, q, ⟨hB, hbd, hRA, hs, hW⟩, hcl, by omega, hq12, by omega, hfl, ⟨rfl, rfl, rfl, rfl, rfl⟩, by rw [if_neg (by omega)]; exact hφ, m45, m26, by rw [if_neg (by omega)]; rfl, rfl, rfl, rfl⟩
end OK
