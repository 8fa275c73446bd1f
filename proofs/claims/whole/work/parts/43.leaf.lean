section WK
variable {σ : Sg} {na n a k : Nat} {Q : Sg → Prop}
theorem wk_plain (hz : sI σ 1 3 = nI na) (hna : na ≤ 60) (h9 : sI σ 21 9 = nI n) (hn : n < 200) (ha : sI σ 22 n = nI a) (han : a < na) (hkd : sI σ 2 (4 * a) = nI k) (hk : k < 32) (n4 : k ≠ 4) (n19 : k ≠ 19) (n21 : k ≠ 21) (n22 : k ≠ 22) (n23 : k ≠ 23) (n24 : k ≠ 24) (n25 : k ≠ 25) (n27 : k ≠ 27) (n28 : k ≠ 28) (n29 : k ≠ 29) (q : wX6_workPlainly σ (nI k) (fun σ' => Q σ')) : wX6_work σ Q := by
  have ne : ∀ c : Nat, c < 100 → k ≠ c → ¬ nI k = nI c := fun c hc h => neN k c rfl rfl h (by omega) (by omega)
  unfold wX6_work wX6_work_241
  refine c_act h9 hn ?_
  rw [ha]
  refine c_given hz hna han (w := 0) rfl (by omega) ?_
  rw [Nat.add_zero, hkd]
  exact ⟨fun h => absurd h (ne 4 (by decide) n4), fun _ => q, fun _ => q, fun _ => q, fun _ => q, fun _ => q, fun _ => q, fun _ => q, fun _ => q, fun _ => q, fun _ => q, fun _ => q, fun _ => q, fun _ => q, fun _ => q, fun h => absurd h (ne 19 (by decide) n19), fun _ => q, fun h => absurd h (ne 21 (by decide) n21), fun h => absurd h (ne 22 (by decide) n22), fun h => absurd h (ne 23 (by decide) n23), fun h => absurd h (ne 24 (by decide) n24), fun h => absurd h (ne 25 (by decide) n25), fun _ => q, fun h => absurd h (ne 27 (by decide) n27), fun h => absurd h (ne 28 (by decide) n28), fun h => absurd h (ne 29 (by decide) n29), fun _ _ _ _ _ _ _ _ _ _ _ _ _ _ _ _ _ _ _ _ _ _ _ _ _ _ => q⟩
/-- the work of kind k that has its own method -/
theorem wk_sel (hz : sI σ 1 3 = nI na) (hna : na ≤ 60) (h9 : sI σ 21 9 = nI n) (hn : n < 200) (ha : sI σ 22 n = nI a) (han : a < na) (hkd : sI σ 2 (4 * a) = nI k) (q : (fun r4 σ3 => (r4 = 4 → (wX6_keep σ3 (fun σ5 => Q σ5))) ∧ (r4 = 19 → (wX6_copy σ3 (fun σ6 => Q σ6))) ∧ (r4 = 21 → (wX8_stage σ3 (fun r8 σ7 => wX8_value σ7 (r8 - (1 : Int32)) (fun r10 σ9 => wX6_give σ9 r10 (fun σ11 => Q σ11))))) ∧ (r4 = 22 → (wX6_doAlways σ3 (fun σ12 => Q σ12))) ∧ (r4 = 23 → (wX6_choose σ3 (fun σ13 => Q σ13))) ∧ (r4 = 24 → (wX6_loop σ3 (fun σ14 => Q σ14))) ∧ (r4 = 25 → (wX6_call σ3 (fun σ15 => Q σ15))) ∧ (r4 = 27 → (wX6_delay σ3 (fun σ16 => Q σ16))) ∧ (r4 = 28 → (wX8_value σ3 (0 : Int32) (fun r18 σ17 => wX9_number σ17 r18 (fun r20 σ19 => wX6_force σ19 r20 (fun σ21 => Q σ21))))) ∧ (r4 = 29 → (wX8_value σ3 (0 : Int32) (fun r23 σ22 => wX6_give σ22 r23 (fun σ24 => Q σ24))))) (nI k) σ) (hs : k = 4 ∨ k = 19 ∨ k = 21 ∨ k = 22 ∨ k = 23 ∨ k = 24 ∨ k = 25 ∨ k = 27 ∨ k = 28 ∨ k = 29) : wX6_work σ Q := by
  unfold wX6_work
  refine c_act h9 hn ?_
  rw [ha]
  refine c_given hz hna han (w := 0) rfl (by omega) ?_
  rw [Nat.add_zero, hkd]
  obtain ⟨q1, q2, q3, q4, q5, q6, q7, q8, q9, q10⟩ := q
  rcases hs with rfl | rfl | rfl | rfl | rfl | rfl | rfl | rfl | rfl | rfl
  all_goals
    refine ⟨q1, ?_⟩
    repeat refine gS (by decide) ?_
    first
      | (refine ⟨q2, ?_⟩; repeat refine gS (by decide) ?_)
      | (refine ⟨q3, ?_⟩; repeat refine gS (by decide) ?_)
      | (refine ⟨q4, ?_⟩; repeat refine gS (by decide) ?_)
      | (refine ⟨q5, ?_⟩; repeat refine gS (by decide) ?_)
      | (refine ⟨q6, ?_⟩; repeat refine gS (by decide) ?_)
      | (refine ⟨q7, ?_⟩; repeat refine gS (by decide) ?_)
      | (refine ⟨q8, ?_⟩; repeat refine gS (by decide) ?_)
      | (refine ⟨q9, ?_⟩; repeat refine gS (by decide) ?_)
      | (refine ⟨q10, ?_⟩; repeat refine gS (by decide) ?_)
      | skip
    intros; contradiction
/-- plain work: up to kind 9, or above -/
theorem wp_lo (hz : sI σ 1 3 = nI na) (hna : na ≤ 60) (h9 : sI σ 21 9 = nI n) (hn : n < 200) (ha : sI σ 22 n = nI a) (han : a < na) (hk : k ≤ 9) (q : wX6_reckon σ (nI k) (sI σ 2 (4 * a + 1)) (sL σ 25 (3 * n)) (sL σ 25 (3 * n + 1)) (fun v σ' => wX6_give σ' v (fun σ'' => Q σ''))) : wX6_workPlainly σ (nI k) Q := by
  unfold wX6_workPlainly wX6_workPlainly_71
  refine c_act h9 hn ?_
  rw [ha]
  refine c_given hz hna han (w := 1) rfl (by omega) ?_
  refine c_value (w := 0) h9 hn rfl (by omega) (c_value (w := 1) h9 hn rfl (by omega) ?_)
  exact gF (nltN 9 k rfl rfl hk (by decide)) q
theorem wp_hi (hz : sI σ 1 3 = nI na) (hna : na ≤ 60) (h9 : sI σ 21 9 = nI n) (hn : n < 200) (ha : sI σ 22 n = nI a) (han : a < na) (hk : 9 < k) (hk2 : k < 100) (q : wX6_change σ (nI k) (sI σ 2 (4 * a + 1)) (sL σ 25 (3 * n)) (sL σ 25 (3 * n + 1)) (sL σ 25 (3 * n + 2)) (fun v σ' => wX6_give σ' v (fun σ'' => Q σ''))) : wX6_workPlainly σ (nI k) Q := by
  unfold wX6_workPlainly wX6_workPlainly_71
  refine c_act h9 hn ?_
  rw [ha]
  refine c_given hz hna han (w := 1) rfl (by omega) ?_
  refine c_value (w := 0) h9 hn rfl (by omega) (c_value (w := 1) h9 hn rfl (by omega) ?_)
  refine gT (ltN 9 k rfl rfl hk (by omega)) (c_value (w := 2) h9 hn rfl (by omega) ?_)
  exact q
end WK
section ML
variable {μ : Sg} {K : Sg → Prop} {a f s lim : Nat}
theorem m_begin_0 (hs : sI μ 0 45 = nI s) (hl : sI μ 0 46 = nI lim) (hsl : s < lim) (hb : lim ≤ 200) (h37 : sI μ 0 37 = nI a) (ha : a < 60) (hk : sI μ 1 a = nI 0) (q : K (mVal (wI μ 0 45 (nI (s + 1))) 0 (sI μ 2 a))) : wX11_begin μ K := by
  have hv : vp_in (nI a) 60 := vp_in_nI ha (by decide)
  unfold wX11_begin
  refine gF (neN s lim hs hl (by omega) (by omega) (by omega)) ?_
  rw [hs, h37, nI_clamp (by omega), hk, nI_1]
  refine ⟨hv, ⟨fun _ => ⟨hv, q⟩, ?_⟩⟩
  repeat refine gS (by decide) ?_
  intros; contradiction
theorem m_begin_2 (hs : sI μ 0 45 = nI s) (hl : sI μ 0 46 = nI lim) (hsl : s < lim) (hb : lim ≤ 200) (h37 : sI μ 0 37 = nI a) (ha : a < 60) (hk : sI μ 1 a = nI 2) (q : K (mVal (wI μ 0 45 (nI (s + 1))) 1 0)) : wX11_begin μ K := by
  have hv : vp_in (nI a) 60 := vp_in_nI ha (by decide)
  unfold wX11_begin
  refine gF (neN s lim hs hl (by omega) (by omega) (by omega)) ?_
  rw [hs, h37, nI_clamp (by omega), hk, nI_1]
  refine ⟨hv, ?_⟩
  repeat refine gS (by decide) ?_
  refine ⟨fun _ => q, ?_⟩
  repeat refine gS (by decide) ?_
  intros; contradiction
theorem m_begin_1 {z : Nat} (hs : sI μ 0 45 = nI s) (hl : sI μ 0 46 = nI lim) (hsl : s < lim) (hb : lim ≤ 200) (h37 : sI μ 0 37 = nI a) (ha : a < 60) (hk : sI μ 1 a = nI 1) (h38 : sI μ 0 38 = nI f) (hf : f < 220) (hz : sI μ 2 a = nI z) (hz8 : z < 8) (q : K (mVal (wI μ 0 45 (nI (s + 1))) (sI μ 13 (8 * f + z)) (sI μ 14 (8 * f + z)))) : wX11_begin μ K := by
  have hv : vp_in (nI a) 60 := vp_in_nI ha (by decide)
  unfold wX11_begin
  refine gF (neN s lim hs hl (by omega) (by omega) (by omega)) ?_
  rw [hs, h37, h38, nI_clamp (by omega), hk, nI_1, hz]
  have e : ((8 : Int32) * nI f) + nI z = nI (8 * f + z) := addN (8 * f) z (mulN 8 f rfl rfl) rfl
  rw [e, nI_clamp (by omega)]
  have hw : vp_in (nI (8 * f + z)) 1760 := vp_in_nI (by omega) (by decide)
  refine ⟨hv, ?_⟩
  repeat refine gS (by decide) ?_
  refine ⟨fun _ => ⟨hv, hw, hv, hw, q⟩, ?_⟩
  repeat refine gS (by decide) ?_
  intros; contradiction
theorem m_begin_30 {z : Nat} (hs : sI μ 0 45 = nI s) (hl : sI μ 0 46 = nI lim) (hsl : s < lim) (hb : lim ≤ 200) (h37 : sI μ 0 37 = nI a) (ha : a < 60) (hk : sI μ 1 a = nI 30) (hz : sI μ 2 a = nI z) (hz8 : z < 8) (q : K (mVal (wI μ 0 45 (nI (s + 1))) (sI μ 15 z) (sI μ 16 z))) : wX11_begin μ K := by
  have hv : vp_in (nI a) 60 := vp_in_nI ha (by decide)
  unfold wX11_begin
  refine gF (neN s lim hs hl (by omega) (by omega) (by omega)) ?_
  rw [hs, h37, nI_clamp (by omega), hk, nI_1, hz, nI_clamp (by omega)]
  have hw : vp_in (nI z) 8 := vp_in_nI hz8 (by decide)
  refine ⟨hv, ?_⟩
  repeat refine gS (by decide) ?_
  refine ⟨fun _ => ⟨hv, hw, hv, hw, q⟩, ?_⟩
  intros; contradiction
theorem m_begin_27 {th : Nat} (hs : sI μ 0 45 = nI s) (hl : sI μ 0 46 = nI lim) (hsl : s < lim) (hb : lim ≤ 200) (h37 : sI μ 0 37 = nI a) (ha : a < 60) (hk : sI μ 1 a = nI 27) (h38 : sI μ 0 38 = nI f) (h6 : sI μ 0 6 = nI th) (hth : th < 220) (q : K (mVal (mLater (wI μ 0 45 (nI (s + 1))) th (sI μ 2 a) (nI f)) 7 (nI th))) : wX11_begin μ K := by
  have hv : vp_in (nI a) 60 := vp_in_nI ha (by decide)
  unfold wX11_begin
  refine gF (neN s lim hs hl (by omega) (by omega) (by omega)) ?_
  rw [hs, h37, h38, nI_clamp (by omega), hk, nI_1]
  refine ⟨hv, ?_⟩
  repeat refine gS (by decide) ?_
  refine ⟨fun _ => m_newThing (k := th) h6 hth ?_, ?_⟩
  · have hw : vp_in (nI th) 220 := vp_in_nI hth (by decide)
    rw [nI_clamp (by omega), mThing_I _ _ _ _ _ (Or.inl (by decide)) (Or.inl (by decide)) (Or.inl (by decide)) (Or.inl (by decide))]
    exact ⟨hv, hw, hw, hw, q⟩
  · repeat refine gS (by decide) ?_
    intros; contradiction
end ML
