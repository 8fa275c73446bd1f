section LU
variable {so dl ln : Nat → Nat} {th us lm mk ch tl cl fl na lim q : Nat} {σ μ : Sg} {v : Int64} {t x : Int32}
theorem Lt.upd {la lf ls lx lc ma mf ms mt mn ls' lx' lc' ms' mt' mn' : Nat → Int32} {lv lv' : Nat → Int64} (h : Lt so dl th mk na la lf ls lx lc lv ma mf ms mt mn) (hinj : ∀ k, k < th → so k = 7 → dl k = dl q → k = q) (h1 : ∀ y, y ≠ dl q → ls' y = ls y ∧ lx' y = lx y ∧ lc' y = lc y ∧ lv' y = lv y) (h2 : ∀ y, y ≠ q → ms' y = ms y ∧ mt' y = mt y ∧ mn' y = mn y)
    (hn : ls' (dl q) = ms' q ∧ (ms' q = 0 ∨ ms' q = 1 ∨ (ms' q = 2 ∧ V so dl th (lv' (dl q)) (mt' q) (mn' q)) ∨ (ms' q = 3 ∧ lx' (dl q) = mt' q ∧ lc' (dl q) = mn' q ∧ ∃ e, 1 ≤ e ∧ e ≤ 8 ∧ mt' q = nI e))) : Lt so dl th mk na la lf ls' lx' lc' lv' ma mf ms' mt' mn' := by
  intro k hk h7
  obtain ⟨a, b, c, d, e, f⟩ := h k hk h7
  by_cases ek : k = q
  · subst ek
    exact ⟨a, b, hn.1, d, e, hn.2⟩
  · have hd : dl k ≠ dl q := fun g => ek (hinj k hk h7 g)
    obtain ⟨g1, g2, g3, g4⟩ := h1 _ hd
    obtain ⟨g5, g6, g7⟩ := h2 _ ek
    rw [g1, g2, g3, g4, g5, g6, g7]
    exact ⟨a, b, c, d, e, f⟩
theorem Bs.linj (hB : Bs so dl ln th us lm mk ch tl cl fl na lim σ μ) (hq : q < th) (h7 : so q = 7) : ∀ k, k < th → so k = 7 → dl k = dl q → k = q := fun k hk hk7 hd => hB.1.inj k q hk hq (hk7.trans h7.symm) hd
/-- a later is set to be at work (1), or fresh again (0) -/
theorem Bs.lset {y : Int32} (hB : Bs so dl ln th us lm mk ch tl cl fl na lim σ μ) (hq : q < th) (h7 : so q = 7) (hy : y = 0 ∨ y = 1) : Bs so dl ln th us lm mk ch tl cl fl na lim (wI σ 17 (dl q) y) (wI μ 10 q y) := by
  have hi := hB.linj hq h7
  obtain ⟨b1, b2, b3, b4, b5, b6, b7, b8, b9, b10⟩ := hB
  refine ⟨b1, b2, b3, b4, b5.upd hi (fun z hz => ⟨i_j hz, rfl, rfl, rfl⟩) (fun z hz => ⟨i_j hz, rfl, rfl⟩) ⟨by rw [i_e, i_e], ?_⟩, b6, b7, b8, b9, b10⟩
  rw [i_e]
  rcases hy with h | h
  · exact Or.inl h
  · exact Or.inr (Or.inl h)
theorem Bs.ldone (hB : Bs so dl ln th us lm mk ch tl cl fl na lim σ μ) (hq : q < th) (h7 : so q = 7) (hV : V so dl th v t x) : Bs so dl ln th us lm mk ch tl cl fl na lim (wL (wI σ 17 (dl q) 2) 20 (dl q) v) (wI (wI (wI μ 10 q 2) 11 q t) 12 q x) := by
  have hi := hB.linj hq h7
  obtain ⟨b1, b2, b3, b4, b5, b6, b7, b8, b9, b10⟩ := hB
  refine ⟨b1, b2, b3, b4, b5.upd hi (fun z hz => ⟨?_, rfl, rfl, ?_⟩) (fun z hz => ⟨?_, ?_, ?_⟩) ⟨?_, Or.inr (Or.inr (Or.inl ⟨?_, ?_⟩))⟩, b6, b7, b8, b9, b10⟩
  · rw [sI_wL, i_j hz]
  · rw [l_j hz, sL_wI]
  · rw [i_o (by decide), i_o (by decide), i_j hz]
  · rw [i_o (by decide), i_j hz, i_o (by decide)]
  · rw [i_j hz, i_o (by decide), i_o (by decide)]
  · rw [sI_wL, i_e, i_o (by decide), i_o (by decide), i_e]
  · rw [i_o (by decide), i_o (by decide), i_e]
  · have e1 : sL (wL (wI σ 17 (dl q) 2) 20 (dl q) v) 20 (dl q) = v := l_e
    have e2 : sI (wI (wI (wI μ 10 q 2) 11 q t) 12 q x) 11 q = t := by rw [i_o (by decide), i_e]
    have e3 : sI (wI (wI (wI μ 10 q 2) 11 q t) 12 q x) 12 q = x := i_e
    rw [e1, e2, e3]
    exact hV
theorem Bs.lfail {e : Nat} {c : Int32} (hB : Bs so dl ln th us lm mk ch tl cl fl na lim σ μ) (hq : q < th) (h7 : so q = 7) (he : 1 ≤ e) (he8 : e ≤ 8) : Bs so dl ln th us lm mk ch tl cl fl na lim (wI (wI (wI σ 17 (dl q) 3) 18 (dl q) (nI e)) 19 (dl q) c) (wI (wI (wI μ 10 q 3) 11 q (nI e)) 12 q c) := by
  have hi := hB.linj hq h7
  obtain ⟨b1, b2, b3, b4, b5, b6, b7, b8, b9, b10⟩ := hB
  refine ⟨b1, b2, b3, b4, b5.upd hi (fun z hz => ⟨?_, ?_, ?_, rfl⟩) (fun z hz => ⟨?_, ?_, ?_⟩) ⟨?_, Or.inr (Or.inr (Or.inr ⟨?_, ?_, ?_, e, he, he8, ?_⟩))⟩, b6, b7, b8, b9, b10⟩
  · rw [i_o (by decide), i_o (by decide), i_j hz]
  · rw [i_o (by decide), i_j hz, i_o (by decide)]
  · rw [i_j hz, i_o (by decide), i_o (by decide)]
  · rw [i_o (by decide), i_o (by decide), i_j hz]
  · rw [i_o (by decide), i_j hz, i_o (by decide)]
  · rw [i_j hz, i_o (by decide), i_o (by decide)]
  · rw [i_o (by decide), i_o (by decide), i_e, i_o (by decide), i_o (by decide), i_e]
  · rw [i_o (by decide), i_o (by decide), i_e]
  · rw [i_o (by decide), i_e, i_o (by decide), i_e]
  · rw [i_e, i_e]
  · rw [i_o (by decide), i_e]
/-- a slot of both gets a value -/
theorem Bs.slot {j : Nat} (hB : Bs so dl ln th us lm mk ch tl cl fl na lim σ μ) (hV : V so dl th v t x) : Bs so dl ln th us lm mk ch tl cl fl na lim (wL σ 13 j v) (wI (wI μ 13 j t) 14 j x) := by
  obtain ⟨b1, b2, b3, b4, b5, b6, b7, b8, b9, b10⟩ := hB
  refine ⟨b1, b2, b3, fun y hy => ?_, b5, b6, b7, b8, b9, b10⟩
  by_cases e : y = j
  · subst e
    have e1 : sL (wL σ 13 y v) 13 y = v := l_e
    have e2 : sI (wI (wI μ 13 y t) 14 y x) 13 y = t := by rw [i_o (by decide), i_e]
    have e3 : sI (wI (wI μ 13 y t) 14 y x) 14 y = x := i_e
    rw [e1, e2, e3]
    exact hV
  · rw [l_j e, i_o (by decide), i_j e, i_j e, i_o (by decide)]
    exact b4 y hy
theorem Sl.more {mk' : Nat} {sl sl' : Nat → Int64} {st sn st' sn' : Nat → Int32} (h : Sl so dl th mk sl st sn) (h1 : ∀ j, j < 8 * mk → sl' j = sl j ∧ st' j = st j ∧ sn' j = sn j) (h2 : ∀ j, 8 * mk ≤ j → j < 8 * mk' → sl' j = pk 1 0 ∧ st' j = 1 ∧ sn' j = 0) : Sl so dl th mk' sl' st' sn' := by
  intro j hj
  by_cases hlt : j < 8 * mk
  · obtain ⟨a, b, c⟩ := h1 j hlt
    rw [a, b, c]
    exact h j hlt
  · obtain ⟨a, b, c⟩ := h2 j (by omega) hj
    rw [a, b, c]
    exact V.no
theorem Lt.mkmono {mk' : Nat} {la lf ls lx lc ma mf ms mt mn : Nat → Int32} {lv : Nat → Int64} (h : Lt so dl th mk na la lf ls lx lc lv ma mf ms mt mn) (hm : mk ≤ mk') : Lt so dl th mk' na la lf ls lx lc lv ma mf ms mt mn := by
  intro k hk h7
  obtain ⟨a, b, c, d, ⟨f, f1, f2⟩, g⟩ := h k hk h7
  exact ⟨a, b, c, d, ⟨f, by omega, f2⟩, g⟩
/-- a new frame of both -/
theorem Bs.opn (hB : Bs so dl ln th us lm mk ch tl cl fl na lim σ μ) : Bs so dl ln th us lm (mk + 1) ch tl cl fl na lim (cOpen σ mk) (mFrame μ mk) := by
  obtain ⟨b1, b2, b3, b4, b5, b6, ⟨c1, c2, c3, c4, c5, c6, c7⟩, ⟨d1, d2, d3, d4, d5, d6, d7, d8⟩, b9, b10⟩ := hB
  have CI : ∀ o j : Nat, (o ≠ 12 ∨ j ≠ 1) → sI (cOpen σ mk) o j = sI σ o j := by
    intro o j h
    unfold cOpen
    rw [cSlots_I, sI_wI, if_neg (by omega)]
  have CF : ∀ o : Nat, o ≠ 12 → sI (cOpen σ mk) o = sI σ o := fun o h => funext (fun j => CI o j (Or.inl h))
  have CL : ∀ o : Nat, o ≠ 13 → sL (cOpen σ mk) o = sL σ o := fun o h => funext (fun j => by unfold cOpen; rw [cSlots_L, if_neg (by omega)]; rfl)
  have MI : ∀ o j : Nat, (o ≠ 0 ∨ j ≠ 15) → o ≠ 13 → o ≠ 14 → sI (mFrame μ mk) o j = sI μ o j := by
    intro o j h h1 h2
    unfold mFrame
    rw [mFill_I _ _ _ _ _ _ _ (by decide), if_neg (by omega), if_neg (by omega), sI_wI, if_neg (by omega)]
  have F : ∀ o : Nat, o ≠ 0 → o ≠ 13 → o ≠ 14 → sI (mFrame μ mk) o = sI μ o := fun o h h1 h2 => funext (fun j => MI o j (Or.inl h) h1 h2)
  have R : ∀ j : Nat, j ≠ 15 → sI (mFrame μ mk) 0 j = sI μ 0 j := fun j h => MI 0 j (Or.inr h) (by decide) (by decide)
  refine ⟨?_, ?_, ?_, ?_, ?_, ?_, ⟨?_, ?_, ?_, ?_, ?_, ?_, ?_⟩, ⟨?_, ?_, ?_, ?_, ?_, ?_, ?_, ?_⟩, ?_, ?_⟩
  · rw [F 5 (by decide) (by decide) (by decide), CL 7 (by decide)]; exact b1
  · have e1 : mT (mFrame μ mk) = mT μ := by
      funext y
      unfold mT
      rw [F 15 (by decide) (by decide) (by decide), F 6 (by decide) (by decide) (by decide)]
    have e2 : mN (mFrame μ mk) = mN μ := by
      funext y
      unfold mN
      rw [F 16 (by decide) (by decide) (by decide), F 7 (by decide) (by decide) (by decide)]
    rw [e1, e2, CL 7 (by decide)]
    exact b2
  · rw [CF 8 (by decide), CL 9 (by decide), F 17 (by decide) (by decide) (by decide), F 18 (by decide) (by decide) (by decide), F 19 (by decide) (by decide) (by decide)]; exact b3
  · refine b4.more (fun j hj => ⟨?_, ?_, ?_⟩) (fun j h1 h2 => ⟨?_, ?_, ?_⟩)
    · unfold cOpen; rw [cSlots_L, if_neg (by omega)]; rfl
    · unfold mFrame; rw [mFill_I _ _ _ _ _ _ _ (by decide), if_neg (by omega), if_neg (by omega), i_o (by decide)]
    · unfold mFrame; rw [mFill_I _ _ _ _ _ _ _ (by decide), if_neg (by omega), if_neg (by omega), i_o (by decide)]
    · unfold cOpen; rw [cSlots_L, if_pos (by omega)]
    · unfold mFrame; rw [mFill_I _ _ _ _ _ _ _ (by decide), if_neg (by omega), if_pos (by omega)]
    · unfold mFrame; rw [mFill_I _ _ _ _ _ _ _ (by decide), if_pos (by omega)]
  · rw [CF 15 (by decide), CF 16 (by decide), CF 17 (by decide), CF 18 (by decide), CF 19 (by decide), CL 20 (by decide), F 8 (by decide) (by decide) (by decide), F 9 (by decide) (by decide) (by decide), F 10 (by decide) (by decide) (by decide), F 11 (by decide) (by decide) (by decide), F 12 (by decide) (by decide) (by decide)]
    exact b5.mkmono (by omega)
  · rw [CF 11 (by decide), F 20 (by decide) (by decide) (by decide)]; exact b6
  · rw [CI 6 3 (by decide)]; exact c1
  · rw [CI 6 4 (by decide)]; exact c2
  · rw [R 20 (by decide)]; exact c3
  · unfold cOpen; rw [cSlots_I, i_e]
  · unfold mFrame; rw [mFill_I _ _ _ _ _ _ _ (by decide), if_neg (by omega), if_neg (by omega), i_e]
  · rw [CI 14 6 (by decide)]; exact c6
  · rw [R 6 (by decide)]; exact c7
  · rw [CI 5 4 (by decide)]; exact d1
  · rw [R 24 (by decide)]; exact d2
  · rw [CI 5 8 (by decide)]; exact d3
  · rw [R 47 (by decide)]; exact d4
  · rw [CI 10 2 (by decide)]; exact d5
  · rw [R 44 (by decide)]; exact d6
  · rw [CI 10 0 (by decide)]; exact d7
  · rw [R 46 (by decide)]; exact d8
  · rw [CI 0 2 (by decide), R 5 (by decide)]; exact b9
  · rw [CL 10 (by decide)]; exact b10
/-- something is told by both -/
def mTell (μ : Sg) (o : Nat) (x : Int32) : Sg := if o < 40 then wI (wI μ 20 o x) 0 24 (nI (o + 1)) else μ
theorem Bs.tell (hB : Bs so dl ln th us lm mk ch tl cl fl na lim σ μ) : Bs so dl ln th us lm mk ch (if tl < 40 then tl + 1 else tl) cl fl na lim (cTell σ tl x) (mTell μ tl x) := by
  unfold cTell mTell
  by_cases h : tl < 40
  · rw [if_pos h, if_pos h, if_pos h]
    obtain ⟨b1, b2, b3, b4, b5, b6, b7, ⟨d1, d2, d3⟩, b9, b10⟩ := hB
    refine ⟨b1, b2, b3, b4, b5, fun j hj => ?_, b7, ⟨rfl, rfl, d3⟩, b9, b10⟩
    by_cases e : j = tl
    · subst e
      rw [i_o (by decide), i_e, i_o (by decide), i_e]
    · rw [i_o (by decide), i_j e, i_o (by decide), i_j e]
      exact b6 j (by omega)
  · rw [if_neg h, if_neg h, if_neg h]
    exact hB
/-- a later of both -/
def mLater (μ : Sg) (k : Nat) (a f : Int32) : Sg := wI (wI (wI (mThing μ k 0) 8 k a) 9 k f) 10 k 0
theorem mLater_I (μ : Sg) (k : Nat) (a f : Int32) (o j : Nat) (h0 : o ≠ 0 ∨ j ≠ 6) (h5 : o ≠ 5 ∨ j ≠ k) (h6 : o ≠ 6 ∨ j < 16 * k ∨ 16 * k + 16 ≤ j) (h7 : o ≠ 7 ∨ j < 16 * k ∨ 16 * k + 16 ≤ j) (h8 : (o ≠ 8 ∧ o ≠ 9 ∧ o ≠ 10) ∨ j ≠ k) : sI (mLater μ k a f) o j = sI μ o j := by
  unfold mLater
  rw [sI_wI, if_neg (by omega), sI_wI, if_neg (by omega), sI_wI, if_neg (by omega), mThing_I _ _ _ _ _ h0 h5 h6 h7]
theorem Bs.later {a f : Nat} (hB : Bs so dl ln th us lm mk ch tl cl fl na lim σ μ) (h8 : 8 ≤ us) (ha : a < na) (hf : f < mk) : Bs (up1 so th 7) (up1 dl th lm) (up1 ln th 0) (th + 1) us (lm + 1) mk ch tl cl fl na lim (cLater σ lm (nI a) (nI f)) (mLater μ th (nI a) (nI f)) := by
  obtain ⟨b1, b2, b3, b4, b5, b6, ⟨c1, c2, c3, c4, c5, c6, c7⟩, ⟨d1, d2, d3, d4, d5, d6, d7, d8⟩, b9, b10⟩ := hB
  have F : ∀ o : Nat, o ≠ 0 → o ≠ 5 → o ≠ 6 → o ≠ 7 → o ≠ 8 → o ≠ 9 → o ≠ 10 → sI (mLater μ th (nI a) (nI f)) o = sI μ o := fun o a1 a2 a3 a4 a5 a6 a7 => funext (fun j => mLater_I μ th _ _ o j (Or.inl a1) (Or.inl a2) (Or.inl a3) (Or.inl a4) (Or.inl ⟨a5, a6, a7⟩))
  have R : ∀ j : Nat, j ≠ 6 → sI (mLater μ th (nI a) (nI f)) 0 j = sI μ 0 j := fun j hj => mLater_I μ th _ _ 0 j (Or.inr hj) (Or.inl (by decide)) (Or.inl (by decide)) (Or.inl (by decide)) (Or.inl (by decide))
  refine ⟨?_, ?_, ?_, ?_, ?_, ?_, ⟨c1, c2, ?_, c4, ?_, ?_, ?_⟩, ⟨d1, ?_, d3, ?_, d5, ?_, d7, ?_⟩, ?_, b10⟩
  · refine b1.grow h8 (Nat.le_refl _) (by omega) (fun k hk => ?_) (fun _ _ => rfl) (by omega) (by omega) (fun q => by omega) (fun _ _ => by omega) (fun _ => ⟨Nat.le_refl _, by omega⟩)
    exact mLater_I μ th _ _ 5 k (Or.inl (by decide)) (Or.inr (by omega)) (Or.inl (by decide)) (Or.inl (by decide)) (Or.inl (by decide))
  · refine b2.grow b1 h8 (fun _ _ => rfl) (fun y hy => ?_) (fun y hy => ?_) (fun i hi hn => by omega)
    · unfold mT
      split
      · rw [F 15 (by decide) (by decide) (by decide) (by decide) (by decide) (by decide) (by decide)]
      · exact mLater_I μ th _ _ 6 _ (Or.inl (by decide)) (Or.inl (by decide)) (Or.inr (by omega)) (Or.inl (by decide)) (Or.inl (by decide))
    · unfold mN
      split
      · rw [F 16 (by decide) (by decide) (by decide) (by decide) (by decide) (by decide) (by decide)]
      · exact mLater_I μ th _ _ 7 _ (Or.inl (by decide)) (Or.inl (by decide)) (Or.inl (by decide)) (Or.inr (by omega)) (Or.inl (by decide))
  · rw [F 17 (by decide) (by decide) (by decide) (by decide) (by decide) (by decide) (by decide), F 18 (by decide) (by decide) (by decide) (by decide) (by decide) (by decide) (by decide), F 19 (by decide) (by decide) (by decide) (by decide) (by decide) (by decide) (by decide)]
    exact Lg.up b3
  · rw [F 13 (by decide) (by decide) (by decide) (by decide) (by decide) (by decide) (by decide), F 14 (by decide) (by decide) (by decide) (by decide) (by decide) (by decide) (by decide)]
    exact Sl.up b4
  · rw [F 11 (by decide) (by decide) (by decide) (by decide) (by decide) (by decide) (by decide), F 12 (by decide) (by decide) (by decide) (by decide) (by decide) (by decide) (by decide)]
    intro k hk
    by_cases e : k = th
    · subst e
      intro _
      rw [up1_e]
      have e15 : sI (cLater σ lm (nI a) (nI f)) 15 lm = nI a := by simp [cLater, sI_wI]
      have e16 : sI (cLater σ lm (nI a) (nI f)) 16 lm = nI f := by simp [cLater, sI_wI]
      have e17 : sI (cLater σ lm (nI a) (nI f)) 17 lm = 0 := by simp [cLater, sI_wI]
      have e8 : sI (mLater μ k (nI a) (nI f)) 8 k = nI a := by simp [mLater, sI_wI]
      have e9 : sI (mLater μ k (nI a) (nI f)) 9 k = nI f := by simp [mLater, sI_wI]
      have e10 : sI (mLater μ k (nI a) (nI f)) 10 k = 0 := by simp [mLater, sI_wI]
      rw [e15, e16, e17, e8, e9, e10]
      exact ⟨rfl, rfl, rfl, ⟨a, ha, rfl⟩, ⟨f, hf, rfl⟩, Or.inl rfl⟩
    · have hlt : k < th := by omega
      rw [up1_lt hlt, up1_lt hlt]
      intro h7
      obtain ⟨g1, g2, g3, g4, g5, g6⟩ := b5 k hlt h7
      have hd : ¬ dl k = lm := by
        have := (b1.1 k hlt).2.2.2.2 h7
        omega
      have e15 : sI (cLater σ lm (nI a) (nI f)) 15 (dl k) = sI σ 15 (dl k) := by simp [cLater, sI_wI, hd]
      have e16 : sI (cLater σ lm (nI a) (nI f)) 16 (dl k) = sI σ 16 (dl k) := by simp [cLater, sI_wI, hd]
      have e17 : sI (cLater σ lm (nI a) (nI f)) 17 (dl k) = sI σ 17 (dl k) := by simp [cLater, sI_wI, hd]
      have em : ∀ o, o = 8 ∨ o = 9 ∨ o = 10 → sI (mLater μ th (nI a) (nI f)) o k = sI μ o k := fun o ho => mLater_I μ th _ _ o k (Or.inl (by omega)) (Or.inl (by omega)) (Or.inl (by omega)) (Or.inl (by omega)) (Or.inr e)
      rw [e15, e16, e17, em 8 (by omega), em 9 (by omega), em 10 (by omega)]
      refine ⟨g1, g2, g3, g4, g5, ?_⟩
      rcases g6 with g | g | ⟨g, g'⟩ | g
      · exact Or.inl g
      · exact Or.inr (Or.inl g)
      · exact Or.inr (Or.inr (Or.inl ⟨g, g'.up⟩))
      · exact Or.inr (Or.inr (Or.inr g))
  · rw [F 20 (by decide) (by decide) (by decide) (by decide) (by decide) (by decide) (by decide)]
    exact b6
  · rw [R 20 (by decide)]; exact c3
  · rw [R 15 (by decide)]; exact c5
  · simp [cLater, sI_wI]
  · unfold mLater mThing
    rw [i_o (by decide), i_o (by decide), i_o (by decide), mFill_I _ _ _ _ _ _ _ (by decide), if_neg (by omega), if_neg (by omega), i_o (by decide), i_e]
  · rw [R 24 (by decide)]; exact d2
  · rw [R 47 (by decide)]; exact d4
  · rw [R 44 (by decide)]; exact d6
  · rw [R 46 (by decide)]; exact d8
  · rw [R 5 (by decide)]; exact b9
end LU
