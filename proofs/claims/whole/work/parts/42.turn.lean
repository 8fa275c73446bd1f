section TU
variable {σ : Sg} {na us n a k j : Nat}
theorem len_any (v : Int64) (hu : sI σ 6 3 = nI us) (hu2 : us ≤ 1708) : ∃ r : Int32, (∀ Q : Int32 → Sg → Prop, Q r σ → wX7_lengthOf σ v Q) ∧ (isRw (srt v) → ∀ c, nbr v = nI c → c < us → r = nbr (sL σ 7 c)) ∧ (¬ isRw (srt v) → r = 0) := by
  by_cases hr : isRw (srt v)
  · rcases casesN (nbr v) (n := us) (by omega) with h | ⟨h1, h2⟩ | ⟨c, hc, hx⟩
    · refine ⟨nbr (pk 1 0), fun Q q => ?_, fun _ c hc hcu => ?_, fun q => absurd hr q⟩
      · unfold wX7_lengthOf
        refine c_isRow (fun _ => gF ne10 (c_number ?_)) (fun g => absurd hr g)
        unfold wX7_read
        rw [pk_none]
        exact gT h (c_number q)
      · rw [hc] at h
        exact absurd h (nn0 c rfl (by omega))
    · refine ⟨nbr (pk 1 0), fun Q q => ?_, fun _ c hc hcu => ?_, fun q => absurd hr q⟩
      · unfold wX7_lengthOf
        refine c_isRow (fun _ => gF ne10 (c_number ?_)) (fun g => absurd hr g)
        unfold wX7_read
        rw [hu, pk_none]
        exact gF h1 (gF h2 (c_number q))
      · rw [hc] at h2
        exact absurd (ltN c us rfl rfl hcu (by omega)) h2
    · refine ⟨nbr (sL σ 7 c), fun Q q => c_lengthOf hu hu2 hr hx hc q, fun _ c' hc' hcu => ?_, fun q => absurd hr q⟩
      have : c' = c := eqN (hc'.symm.trans hx) (by omega) (by omega)
      rw [this]
  · exact ⟨0, fun Q q => c_lengthNo hr q, fun q => absurd q hr, fun _ => rfl⟩
/-- what a turn of the class does where its stack isn't empty -/
def TC (σ : Sg) (Q : Sg → Prop) : Prop := (sI σ 10 3 = 0 → wX6_comesToWork σ (fun r σ' => (r = 0 → Q σ') ∧ (¬ r = 0 → wX6_work σ' (fun σ'' => Q σ'')))) ∧ (¬ sI σ 10 3 = 0 → wX6_leave σ (fun σ' => Q σ'))
variable {Q : Sg → Prop}
theorem tc_part (h0 : sI σ 10 3 = 0) (hz : sI σ 1 3 = nI na) (hna : na ≤ 60) (h9 : sI σ 21 9 = nI n) (hn : n < 200) (ha : sI σ 22 n = nI a) (han : a < na) (hah : sI σ 4 a = nI k) (hj : sI σ 24 n = nI j) (hk : k < 100) (hjk : j < k) (q : wX6_beginPart σ (nI j) Q) : TC σ Q := by
  refine gT h0 ?_
  unfold wX6_comesToWork
  refine c_act h9 hn ?_
  rw [ha]
  refine c_ahead hz hna han ?_
  refine c_stage h9 hn ?_
  rw [hah, hj]
  refine gT (ltN j k rfl rfl hjk (by omega)) (c_stage h9 hn ?_)
  rw [hj]
  unfold wX6_beginPart at q ⊢
  unfold wX8_actOnTop at q ⊢
  refine ⟨q.1, ?_⟩
  have q2 := q.2
  rw [h9, nI_clamp (by omega), ha] at q2 ⊢
  unfold wX0_part wX0_has at q2 ⊢
  have e1 := nn0 a rfl (show a < 2 ^ 31 by omega)
  have e2 : nI a < sI σ 1 3 := ltN a na rfl hz han (by omega)
  have e3 := nn0 j rfl (show j < 2 ^ 31 by omega)
  refine gF e1 (gT e2 (gF ne10 (gF e3 ?_)))
  have q3 := ((q2.2 e1).1 e2).2 ne10 |>.2 e3
  by_cases h3 : nI j < (3 : Int32)
  · refine gT h3 ?_
    have q4 := q3.1 h3
    refine ⟨q4.1, ?_⟩
    have q5 := q4.2
    unfold wX8_frame at q5 ⊢
    refine ⟨q5.1, ?_⟩
    have q6 := q5.2
    unfold wX6_begin at q6 ⊢
    unfold wX1_takesStep at q6 ⊢
    refine ⟨fun g => ?_, fun g => ?_⟩
    · have q7 := q6.1 g
      refine gF ne10 ?_
      have q8 := q7.2 ne10
      unfold wX7_changesSoFar wX8_push at q8 ⊢
      refine ⟨fun g2 => ?_, fun g2 => gT rfl (q8.2 g2)⟩
      have q9 := q8.1 g2
      exact ⟨q9.1, q9.2.1, q9.2.2.1, q9.2.2.2.1, q9.2.2.2.2.1, gT rfl q9.2.2.2.2.2⟩
    · exact gT rfl (gT rfl ((q6.2 g).1 rfl))
  · refine gF h3 ?_
    have q4 := q3.2 h3
    unfold wX8_frame at q4 ⊢
    refine ⟨q4.1, ?_⟩
    have q6 := q4.2
    unfold wX6_begin at q6 ⊢
    unfold wX1_takesStep at q6 ⊢
    refine ⟨fun g => ?_, fun g => ?_⟩
    · have q7 := q6.1 g
      refine gF ne10 ?_
      have q8 := q7.2 ne10
      unfold wX7_changesSoFar wX8_push at q8 ⊢
      refine ⟨fun g2 => ?_, fun g2 => gT rfl (q8.2 g2)⟩
      have q9 := q8.1 g2
      exact ⟨q9.1, q9.2.1, q9.2.2.1, q9.2.2.2.1, q9.2.2.2.2.1, gT rfl q9.2.2.2.2.2⟩
    · exact gT rfl (gT rfl ((q6.2 g).1 rfl))
theorem tc_after (h0 : sI σ 10 3 = 0) (hz : sI σ 1 3 = nI na) (hna : na ≤ 60) (h9 : sI σ 21 9 = nI n) (hn : n < 200) (ha : sI σ 22 n = nI a) (han : a < na) (hah : sI σ 4 a = nI k) (hj : sI σ 24 n = nI j) (hk : j < 100) (hjk : k < j) (q : wX6_work σ (fun σ' => Q σ')) : TC σ Q := by
  refine gT h0 ?_
  unfold wX6_comesToWork wX6_comesToWork_68
  refine c_act h9 hn ?_
  rw [ha]
  refine c_ahead hz hna han ?_
  refine c_stage h9 hn ?_
  rw [hah, hj]
  refine gF (nltN j k rfl rfl (by omega) (by omega)) (c_stage h9 hn ?_)
  rw [hj]
  exact gT (ltN k j rfl rfl hjk (by omega)) (gF ne10 q)
/-- the parts ahead are done: the failure r that they bring about (0: none) -/
theorem tc_at {kd : Nat} {r : Int32} (h0 : sI σ 10 3 = 0) (hz : sI σ 1 3 = nI na) (hna : na ≤ 60) (h9 : sI σ 21 9 = nI n) (hn : n < 200) (ha : sI σ 22 n = nI a) (han : a < na) (hah : sI σ 4 a = nI j) (hj : sI σ 24 n = nI j) (hj100 : j < 100) (hkd : sI σ 2 (4 * a) = nI kd) (hu : sI σ 6 3 = nI us) (hu2 : us ≤ 1708)
    (hof : ∀ (lx ly : Int32), (isRw (srt (sL σ 25 (3 * n))) → ∀ c, nbr (sL σ 25 (3 * n)) = nI c → c < us → lx = nbr (sL σ 7 c)) → (isRw (srt (sL σ 25 (3 * n + 1))) → ∀ c, nbr (sL σ 25 (3 * n + 1)) = nI c → c < us → ly = nbr (sL σ 7 c)) → ∀ Q' : Int32 → Sg → Prop, Q' r σ → wX2_of σ (nI kd) (sL σ 25 (3 * n)) (sL σ 25 (3 * n + 1)) (sL σ 25 (3 * n + 2)) lx ly Q')
    (k0 : r = 0 → wX6_work σ (fun σ' => Q σ')) (k12 : r = 12 → ∀ Q' : Sg → Prop, (∀ σ', Q σ' → Q' σ') → wX6_endRun σ 12 Q') (kf : ¬ r = 0 → ¬ r = 12 → ∀ Q' : Sg → Prop, (∀ σ', Q σ' → Q' σ') → wX6_fail σ r (if r = 7 then nbr (sL σ 25 (3 * n)) else r) Q') : TC σ Q := by
  refine gT h0 ?_
  unfold wX6_comesToWork wX6_comesToWork_68
  refine c_act h9 hn ?_
  rw [ha]
  refine c_ahead hz hna han ?_
  refine c_stage h9 hn ?_
  rw [hah, hj]
  refine gF (nltN j j rfl rfl (by omega) (by omega)) (c_stage h9 hn ?_)
  rw [hj]
  refine gF (nltN j j rfl rfl (by omega) (by omega)) ?_
  refine c_given hz hna han (w := 0) rfl (by omega) ?_
  rw [Nat.add_zero, hkd]
  unfold wX6_isStopped
  refine c_value (w := 0) h9 hn rfl (by omega) (c_value (w := 1) h9 hn rfl (by omega) (c_value (w := 2) h9 hn rfl (by omega) ?_))
  rw [Nat.add_zero]
  obtain ⟨lx, x1, x2, x3⟩ := len_any (σ := σ) (sL σ 25 (3 * n)) hu hu2
  obtain ⟨ly, y1, y2, y3⟩ := len_any (σ := σ) (sL σ 25 (3 * n + 1)) hu hu2
  refine x1 _ (y1 _ (hof lx ly x2 y2 _ ?_))
  by_cases h12 : r = 12
  · refine gT h12 ?_
    subst h12
    refine k12 rfl _ (fun σ' hq => ?_)
    unfold wX6_isStopped_96
    exact gF (by decide) (gF ne10 (gT rfl hq))
  · refine gF h12 ?_
    by_cases hr0 : r = 0
    · refine gT hr0 ?_
      unfold wX6_isStopped_96
      exact gT hr0 (gT rfl (gF ne10 (k0 hr0)))
    · refine gF hr0 ?_
      have kf' := kf hr0 h12
      unfold wX6_isStopped_93 wX6_isStopped_96
      by_cases h7 : r = 7
      · rw [if_pos h7] at kf'
        refine gT h7 (c_number (kf' _ (fun σ' hq => gF hr0 (gF ne10 (gT rfl hq)))))
      · rw [if_neg h7] at kf'
        refine gF h7 (kf' _ (fun σ' hq => gF hr0 (gF ne10 (gT rfl hq))))
theorem tc_leave (h0 : ¬ sI σ 10 3 = 0) (q : wX6_leave σ (fun σ' => Q σ')) : TC σ Q := gF h0 q
end TU
section OF
variable {σ : Sg} {x y z : Int64} {lx ly : Int32} {Q : Int32 → Sg → Prop}
theorem of_w2 {k : Nat} (hk : k = 5 ∨ k = 6 ∨ k = 8) (q : Q (f1 (fw x) (fw y) 0) σ) : wX2_of σ (nI k) x y z lx ly Q := by
  have p : wX2_of_112 σ x y Q := c_ofWhole (c_ofWhole (c_firstOf q))
  unfold wX2_of
  rcases hk with rfl | rfl | rfl
  · exact ⟨fun _ => p, gS (by decide) (gS (by decide) (gS (by decide) (gS (by decide) (gS (by decide) (gS (by decide) (gS (by decide) (gS (by decide) (gS (by decide) (gS (by decide) (gS (by decide) (gS (by decide) (gS (by decide) (gS (by decide) (gS (by decide) (gS (by decide) (gS (by decide) (gS (by decide) (gS (by decide) (gS (by decide) (gS (by decide) (gS (by decide) (gS (by decide) (by intros; contradiction)))))))))))))))))))))))⟩
  · refine gS (by decide) ⟨fun _ => p, ?_⟩
    repeat refine gS (by decide) ?_
    intros; contradiction
  · refine gS (by decide) (gS (by decide) (gS (by decide) ⟨fun _ => p, ?_⟩))
    repeat refine gS (by decide) ?_
    intros; contradiction
theorem of_7 (q : Q (f1 (fw x) (fw y) (if nbr y = 0 then 6 else 0)) σ) : wX2_of σ (nI 7) x y z lx ly Q := by
  unfold wX2_of
  refine gS (by decide) (gS (by decide) ⟨fun _ => c_ofWhole (c_ofWhole (c_number ?_)), ?_⟩)
  · unfold wX2_of_146
    by_cases h : nbr y = 0
    · rw [if_pos h] at q
      exact gT h (c_firstOf q)
    · rw [if_neg h] at q
      exact gF h (c_firstOf q)
  · repeat refine gS (by decide) ?_
    intros; contradiction
theorem of_new {k : Nat} (hk : k = 10 ∨ k = 11 ∨ k = 12) (q : Q (f1 (fw x) (fl (nbr x)) 0) σ) : wX2_of σ (nI k) x y z lx ly Q := by
  have p : wX2_of_150 σ x Q := c_ofWhole (c_number (c_ofLength (c_firstOf q)))
  unfold wX2_of
  rcases hk with rfl | rfl | rfl
  · repeat refine gS (by decide) ?_
    refine ⟨fun _ => p, ?_⟩
    repeat refine gS (by decide) ?_
    intros; contradiction
  · repeat refine gS (by decide) ?_
    refine ⟨fun _ => p, ?_⟩
    repeat refine gS (by decide) ?_
    intros; contradiction
  · repeat refine gS (by decide) ?_
    refine ⟨fun _ => p, ?_⟩
    repeat refine gS (by decide) ?_
    intros; contradiction
theorem of_none {k : Nat} (hk : k = 0 ∨ k = 1 ∨ k = 2 ∨ k = 3 ∨ k = 4 ∨ k = 9 ∨ k = 13 ∨ k = 14 ∨ k = 21 ∨ k = 22 ∨ k = 25 ∨ k = 27 ∨ k = 29 ∨ k = 30 ∨ k = 31) (q : Q 0 σ) : wX2_of σ (nI k) x y z lx ly Q := by
  unfold wX2_of
  rcases hk with rfl | rfl | rfl | rfl | rfl | rfl | rfl | rfl | rfl | rfl | rfl | rfl | rfl | rfl | rfl
  all_goals first
    | (repeat refine gS (by decide) ?_
       first
         | (refine ⟨fun _ => q, ?_⟩
            repeat refine gS (by decide) ?_
            intros; contradiction)
         | (intros; exact q))
/-- 0, or what a thing of another sort brings about -/
def fth (v : Int64) (b : Bool) : Int32 := if b = true then 0 else if v = pk 1 0 then 1 else 4
theorem c_ofThing2 {v : Int64} {w : Int32} (b : Bool) (hw : w = if b = true then 1 else 0) (q : Q (fth v b) σ) : wX2_ofThing σ v w Q := by
  unfold fth at q
  cases b with
  | true =>
    rw [if_pos rfl] at q hw
    exact c_ofThing (fun _ => q) (fun g => absurd (hw.symm.trans g) (by decide)) (fun g => absurd (hw.symm.trans g) (by decide))
  | false =>
    rw [if_neg (by decide)] at q hw
    refine c_ofThing (fun g => absurd hw g) (fun _ g => ?_) (fun _ g => ?_)
    · rw [if_pos g] at q; exact q
    · rw [if_neg g] at q; exact q
theorem of_15 (b : Bool) (hb : b = true ↔ isRw (srt x)) (q : Q (f1 (fw y) (fth x b) (fp (nbr y) lx)) σ) : wX2_of σ (nI 15) x y z lx ly Q := by
  unfold wX2_of
  repeat refine gS (by decide) ?_
  refine ⟨fun _ => c_ofWhole ?_, ?_⟩
  · refine c_isRow (fun g => ?_) (fun g => ?_)
    · exact c_ofThing2 b (by rw [if_pos (hb.mpr g)]) (c_number (c_ofPlace (c_firstOf q)))
    · exact c_ofThing2 b (by rw [if_neg (fun h => g (hb.mp h))]) (c_number (c_ofPlace (c_firstOf q)))
  · repeat refine gS (by decide) ?_
    intros; contradiction
theorem of_link {k : Nat} (hk : k = 17 ∨ k = 18) (b : Bool) (hb : b = true ↔ isLk (srt x)) (q : Q (fth x b) σ) : wX2_of σ (nI k) x y z lx ly Q := by
  have p : wX2_of_201 σ x Q := by
    unfold wX2_of_201
    refine c_isLink (fun g => ?_) (fun g => ?_)
    · exact c_ofThing2 b (by rw [if_pos (hb.mpr g)]) q
    · exact c_ofThing2 b (by rw [if_neg (fun h => g (hb.mp h))]) q
  unfold wX2_of
  rcases hk with rfl | rfl
  · repeat refine gS (by decide) ?_
    refine ⟨fun _ => p, ?_⟩
    repeat refine gS (by decide) ?_
    intros; contradiction
  · repeat refine gS (by decide) ?_
    refine ⟨fun _ => p, ?_⟩
    repeat refine gS (by decide) ?_
    intros; contradiction
theorem of_20 (q : Q (f1 (fw x) 7 0) σ) : wX2_of σ (nI 20) x y z lx ly Q := by
  unfold wX2_of
  repeat refine gS (by decide) ?_
  refine ⟨fun _ => c_ofWhole (c_firstOf q), ?_⟩
  repeat refine gS (by decide) ?_
  intros; contradiction
theorem of_w1 {k : Nat} (hk : k = 23 ∨ k = 24 ∨ k = 26) (q : Q (fw x) σ) : wX2_of σ (nI k) x y z lx ly Q := by
  have p : wX2_of_236 σ x Q := c_ofWhole q
  unfold wX2_of
  rcases hk with rfl | rfl | rfl
  all_goals
    repeat refine gS (by decide) ?_
    refine ⟨fun _ => p, ?_⟩
    repeat refine gS (by decide) ?_
    intros; contradiction
theorem of_28 (b : Bool) (hb : b = true ↔ srt x = 7) (q : Q (fth x b) σ) : wX2_of σ (nI 28) x y z lx ly Q := by
  unfold wX2_of
  repeat refine gS (by decide) ?_
  refine ⟨fun _ => c_sort ?_, ?_⟩
  · unfold wX2_of_256
    by_cases g : srt x = 7
    · exact gT g (c_ofThing2 b (by rw [if_pos (hb.mpr g)]) q)
    · exact gF g (c_ofThing2 b (by rw [if_neg (fun h => g (hb.mp h))]) q)
  · repeat refine gS (by decide) ?_
    intros; contradiction
end OF
