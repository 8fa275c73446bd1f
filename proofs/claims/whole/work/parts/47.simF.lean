section CF
variable {σ : Sg} {na n a k j q : Nat} {Q : Sg → Prop}
theorem cl_catch (hz : sI σ 1 3 = nI na) (hna : na ≤ 60) (h9 : sI σ 21 9 = nI n) (hn : n < 200) (ha : sI σ 22 n = nI a) (han : a < na) (hkd : sI σ 2 (4 * a) = nI 21) (hj : sI σ 24 n = nI 0) (he : sI σ 10 3 = nI q) (hq : 0 < q) (hq9 : q < 9) (hb : sI σ 2 (4 * a + 2) = 0 ∨ sI σ 2 (4 * a + 2) = nI q) (w : wX6_takeUp σ (fun σ' => Q σ')) : wX6_leave σ Q := by
  unfold wX6_leave wX6_leave_31
  refine c_act h9 hn ?_
  rw [ha]
  refine c_given hz hna han (w := 0) rfl (by omega) ?_
  rw [Nat.add_zero, hkd]
  refine c_stage h9 hn (gT hj (c_failing he hq9 hq (gF ne10 (gF ne10 (gT rfl ?_)))))
  unfold wX6_isCaught wX6_isCaught_31
  refine c_act h9 hn ?_
  rw [ha]
  refine c_given hz hna han (w := 2) rfl (by omega) ?_
  rcases hb with hb | hb
  · exact gT hb (gF ne10 w)
  · by_cases h0 : sI σ 2 (4 * a + 2) = 0
    · exact gT h0 (gF ne10 w)
    · exact gF h0 (gT (hb.trans he.symm) (gF ne10 w))
theorem cl_hold (hz : sI σ 1 3 = nI na) (hna : na ≤ 60) (h9 : sI σ 21 9 = nI n) (hn : n < 200) (ha : sI σ 22 n = nI a) (han : a < na) (hkd : sI σ 2 (4 * a) = nI 22) (hj : sI σ 24 n = nI 0) (he : sI σ 10 3 = nI q) (hq : 0 < q) (hq9 : q < 9) (w : Q (cGo (wI (cHold σ n) 24 n 1) 0 0 (-1))) : wX6_leave σ Q := by
  unfold wX6_leave wX6_leave_31 wX6_leave_64
  refine c_act h9 hn ?_
  rw [ha]
  refine c_given hz hna han (w := 0) rfl (by omega) ?_
  rw [Nat.add_zero, hkd]
  refine c_stage h9 hn (gT hj (c_failing he hq9 hq (gF ne10 (gF ne10 (gF (by decide) ?_)))))
  refine c_failing he hq9 hq (gF ne10 (gF ne10 (gT rfl ?_)))
  refine c_hold h9 hn ?_
  refine c_setStage (t := n) h9 hn (c_settle w)
theorem cl_rest (hz : sI σ 1 3 = nI na) (hna : na ≤ 60) (h9 : sI σ 21 9 = nI n) (hn : n < 200) (ha : sI σ 22 n = nI a) (han : a < na) (hkd : sI σ 2 (4 * a) = nI k) (hk : k < 32) (hj : sI σ 24 n = nI j) (hj3 : j < 3) (he : sI σ 10 3 = nI q) (hq : 0 < q) (hq13 : q < 13) (h21 : q < 9 → j = 0 → k = 21 → ¬ (sI σ 2 (4 * a + 2) = 0 ∨ sI σ 2 (4 * a + 2) = nI q)) (h22 : q < 9 → j = 0 → k ≠ 22) (w : wX6_leave_111 σ (nI k) (if j = 0 then 1 else 0) Q) : wX6_leave σ Q := by
  have eq : ∀ c : Nat, c < 100 → nI k = nI c → k = c := fun c hc h => eqN h (by omega) (by omega)
  have p64 : wX6_leave_64 σ (nI k) (if j = 0 then 1 else 0) Q := by
    unfold wX6_leave_64
    by_cases h9q : q < 9
    · refine c_failing he h9q hq (gF ne10 ?_)
      by_cases j0 : j = 0
      · rw [if_pos j0] at w ⊢
        exact gF ne10 (gF (fun g => h22 h9q j0 (eq 22 (by decide) g)) w)
      · rw [if_neg j0] at w ⊢
        exact gT rfl w
    · exact c_failingNot he (by omega) (by omega) (gT rfl w)
  have p31 : wX6_leave_31 σ (nI k) (if j = 0 then 1 else 0) Q := by
    unfold wX6_leave_31
    by_cases h9q : q < 9
    · refine c_failing he h9q hq (gF ne10 ?_)
      by_cases j0 : j = 0
      · have p64' := p64
        rw [if_pos j0] at p64' ⊢
        refine gF ne10 ⟨fun g => ?_, fun _ => p64'⟩
        have nb := h21 h9q j0 (eq 21 (by decide) g)
        unfold wX6_isCaught wX6_isCaught_31
        refine c_act h9 hn ?_
        rw [ha]
        refine c_given hz hna han (w := 2) rfl (by omega) ?_
        exact gF (fun g => nb (Or.inl g)) (gF (fun g => nb (Or.inr (g.trans he))) (gT rfl p64'))
      · have p64' := p64
        rw [if_neg j0] at p64' ⊢
        exact gT rfl p64'
    · exact c_failingNot he (by omega) (by omega) (gT rfl p64)
  unfold wX6_leave
  refine c_act h9 hn ?_
  rw [ha]
  refine c_given hz hna han (w := 0) rfl (by omega) ?_
  rw [Nat.add_zero, hkd]
  refine c_stage h9 hn ?_
  rw [hj]
  by_cases j0 : j = 0
  · rw [if_pos j0] at p31
    subst j0
    exact gT rfl p31
  · rw [if_neg j0] at p31
    exact gF (neN j 0 rfl rfl j0 (by omega) (by decide)) p31
theorem cl_pop (h9 : sI σ 21 9 = nI n) (hn : n < 200) (hk : k < 32) (y : Int32) (h25 : ¬ (k = 25 ∧ y = 0)) (h28 : ¬ (k = 28 ∧ y = 0)) (h29 : k ≠ 29) (w : Q (cPop σ n)) : wX6_leave_111 σ (nI k) y Q := by
  have ne : ∀ c : Nat, c < 100 → k ≠ c → ¬ nI k = nI c := fun c hc h => neN k c rfl rfl h (by omega) (by omega)
  have eq : ∀ c : Nat, c < 100 → nI k = nI c → k = c := fun c hc h => eqN h (by omega) (by omega)
  have p : wX6_leave_182 σ Q := c_pop h9 hn w
  have p162 : wX6_leave_162 σ (nI k) Q := gF (ne 29 (by decide) h29) p
  have p134 : wX6_leave_134 σ (nI k) y Q := ⟨fun g => gF (fun g2 => h28 ⟨eq 28 (by decide) g, g2⟩) p162, fun _ => p162⟩
  exact ⟨fun g => gF (fun g2 => h25 ⟨eq 25 (by decide) g, g2⟩) p134, fun _ => p134⟩
theorem cl_25 {c : Nat} (h9 : sI σ 21 9 = nI n) (hn : n < 200) (hc : sI σ 5 8 = nI (c + 1)) (w : Q (cPop (wI σ 5 8 (nI c)) n)) : wX6_leave_111 σ (nI 25) 0 Q := by
  unfold wX6_leave_111
  refine gT rfl (gT rfl ?_)
  rw [show sI σ 5 8 - (1 : Int32) = nI c from subN (c + 1) 1 hc rfl (by omega)]
  exact c_pop h9 hn w
theorem cl_28 {d m : Nat} (h9 : sI σ 21 9 = nI n) (hn : n < 200) (hv : sL σ 25 (3 * n) = pk 7 (nI d)) (hm : sI σ 14 6 = nI m) (hm2 : m ≤ 200) (hd : d < m) (he : sI σ 10 3 = nI q) (hq : 0 < q) (hq13 : q < 13) (w1 : q < 9 → Q (cPop (wI (wI (wI σ 17 d 3) 18 d (nI q)) 19 d (sI σ 10 4)) n)) (w0 : ¬ q < 9 → Q (cPop (wI σ 17 d 0) n)) : wX6_leave_111 σ (nI 28) 0 Q := by
  unfold wX6_leave_111 wX6_leave_134 wX6_leave_182
  refine gF (by decide) (gT rfl (gT rfl ?_))
  refine c_value (w := 0) h9 hn rfl (by omega) (c_number ?_)
  rw [Nat.add_zero, hv, nbr_pk]
  unfold wX6_leaveLater
  by_cases h9q : q < 9
  · refine c_failing he h9q hq (gF ne10 (c_lgiveUp hm hm2 hd ?_))
    rw [he]
    exact c_pop h9 hn (w1 h9q)
  · exact c_failingNot he (by omega) (by omega) (gT rfl (c_lset hm hm2 hd (c_pop h9 hn (w0 h9q))))
theorem cl_29 (y : Int32) (h9 : sI σ 21 9 = nI n) (hn : n < 200) (w : wX7_undoBackTo σ (sI σ 26 n) (fun σ' => wX8_pop σ' (fun σ'' => Q σ''))) : wX6_leave_111 σ (nI 29) y Q := by
  have p162 : wX6_leave_162 σ (nI 29) Q := by
    unfold wX6_leave_162 wX6_leave_182
    exact gT rfl (c_mark h9 hn w)
  exact gF (by decide) (gF (by decide) p162)
end CF
section PF
variable {so dl ln : Nat → Nat} {th us lm mk ch tl cl fl na s lim n q φ : Nat} {σ μ : Sg}
/-- the entry at n is left: the failure, or the end, goes on -/
theorem popF (hB : Bs so dl ln th us lm mk ch tl cl fl na lim σ μ) (hRA : RA na σ μ) (hs : sI σ 10 1 = nI s) (hbd : Bd th us lm mk ch tl cl s lim n) (hW : ∀ i, i < n → Ent so dl th na mk σ μ i) (hcl : Cn cl ch s (17 * n) σ μ n) (h1 : 1 ≤ q) (h12 : q ≤ 12) (hf1 : q < 9 → fl ≤ 20) (hf2 : fl ≤ 21) (he : sI σ 10 3 = nI q) (hφ : 4 * (lim - s) + 2 * n + (if q < 9 then 2 else 0) ≤ φ) (m45 : sI μ 0 45 = nI s) (m26 : sI μ 0 26 = nI n) (m36 : sI μ 0 36 = (if q < 9 then 2 else 3)) (m41 : sI μ 0 41 = nI q) (m42 : sI μ 0 42 = sI σ 10 4) (m43 : sI μ 0 43 = sI σ 10 5) : Rr φ (cPop σ n) μ :=
  Or.inr (Or.inr (Or.inr (Or.inl ⟨so, dl, ln, th, us, lm, mk, ch, tl, cl, fl, na, s, lim, n, q, ⟨hB, hbd, hRA, hs, hW⟩, hcl, h1, h12, hf1, hf2, ⟨rfl, rfl, he, rfl, rfl⟩, hφ, m45, m26, m36, m41, m42, m43⟩)))
end PF
