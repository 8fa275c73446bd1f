def up1 (f : Nat → Nat) (k x : Nat) : Nat → Nat := fun i => if i = k then x else f i
theorem up1_lt {f : Nat → Nat} {k x i : Nat} (h : i < k) : up1 f k x i = f i := if_neg (by omega)
theorem up1_e {f : Nat → Nat} {k x : Nat} : up1 f k x k = x := if_pos rfl
section GR
variable {so dl ln : Nat → Nat} {th us lm us' lm' s0 d0 l0 mk ch na w : Nat} {v : Int64} {t x : Int32}
theorem V.up (h : V so dl th v t x) : V (up1 so th s0) (up1 dl th d0) (th + 1) v t x := h.mono (by omega) (fun _ hk => up1_lt hk) (fun _ hk => up1_lt hk)
theorem vld_up (h : vld so ln th w) : vld (up1 so th s0) (up1 ln th l0) (th + 1) w := by
  rcases h with h | ⟨h1, h2, h3⟩
  · exact Or.inl h
  · refine Or.inr ⟨h1, by omega, ?_⟩
    rw [up1_lt h2, up1_lt h2]
    exact h3
theorem cad_up (h : vld so ln th w) : cad (up1 so th s0) (up1 dl th d0) w = cad so dl w := by
  unfold cad
  rcases h with h | ⟨h1, h2, h3⟩
  · rw [if_pos h, if_pos h]
  · simp only [up1_lt h2]
theorem typ_up (h : vld so ln th w) (ht : typ so w t) : typ (up1 so th s0) w t := by
  intro h8
  rcases h with h | ⟨h1, h2, h3⟩
  · omega
  · rw [up1_lt h2]
    exact ht h8
theorem vld_new (h : vld (up1 so th s0) (up1 ln th l0) (th + 1) w) : vld so ln th w ∨ ∃ i, i < 16 ∧ w = 8 + 16 * th + i ∧ ((s0 ≤ 4 ∧ i < l0) ∨ (5 ≤ s0 ∧ s0 ≤ 6 ∧ i = 0)) := by
  rcases h with h | ⟨h1, h2, h3⟩
  · exact Or.inl (Or.inl h)
  · by_cases e : (w - 8) / 16 = th
    · rw [e, up1_e, up1_e] at h3
      exact Or.inr ⟨(w - 8) % 16, by omega, by omega, h3⟩
    · have hlt : (w - 8) / 16 < th := by omega
      rw [up1_lt hlt, up1_lt hlt] at h3
      exact Or.inl (Or.inr ⟨h1, hlt, h3⟩)
theorem Th.grow {sz sz' : Nat → Int32} {cells cells' : Nat → Int64} (h : Th so dl ln th us lm sz cells) (h8 : 8 ≤ us) (hus : us ≤ us') (hlm : lm ≤ lm') (hsz : ∀ k, k < th → sz' k = sz k) (hc : ∀ c, c < us → cells' c = cells c) (h2 : 2 ≤ s0) (h7 : s0 ≤ 7) (hr : s0 ≤ 4 → sz' th = nI l0 ∧ l0 ≤ 16 ∧ us ≤ d0 ∧ d0 + 1 + l0 ≤ us' ∧ cells' d0 = pk 0 (nI l0)) (hk : 5 ≤ s0 → s0 ≤ 6 → us ≤ d0 ∧ d0 < us' ∧ l0 = 0) (hl : s0 = 7 → lm ≤ d0 ∧ d0 < lm') : Th (up1 so th s0) (up1 dl th d0) (up1 ln th l0) (th + 1) us' lm' sz' cells' := by
  have hi : ∀ k, k < th → so k ≤ 6 → dl k + 1 + ln k ≤ us := by
    intro k hk h6
    obtain ⟨a, b, c, d, -⟩ := h.1 k hk
    by_cases h4 : so k ≤ 4
    · have := c h4; omega
    · have := d (by omega) h6; omega
  refine ⟨fun k hk' => ?_, fun k k' hkk hk' => ?_, fun k k' hkk hk' => ?_⟩
  · by_cases e : k = th
    · subst e
      rw [up1_e, up1_e, up1_e]
      refine ⟨h2, h7, fun q => ?_, fun q1 q2 => ?_, fun q => (hl q).2⟩
      · obtain ⟨g1, g2, g3, g4, g5⟩ := hr q
        exact ⟨g1, g2, by omega, g4, g5⟩
      · obtain ⟨g1, g2, g3⟩ := hk q1 q2
        exact ⟨by omega, g2, g3⟩
    · have hlt : k < th := by omega
      rw [up1_lt hlt, up1_lt hlt, up1_lt hlt]
      obtain ⟨a, b, c, d, e'⟩ := h.1 k hlt
      refine ⟨a, b, fun q => ?_, fun q1 q2 => ?_, fun q => ?_⟩
      · obtain ⟨g1, g2, g3, g4, g5⟩ := c q
        exact ⟨by rw [hsz k hlt]; exact g1, g2, g3, by omega, by rw [hc _ (by omega)]; exact g5⟩
      · obtain ⟨g1, g2, g3⟩ := d q1 q2
        exact ⟨g1, by omega, g3⟩
      · have := e' q
        omega
  · have hkt : k < th := by omega
    rw [up1_lt hkt, up1_lt hkt, up1_lt hkt]
    by_cases e : k' = th
    · subst e
      rw [up1_e, up1_e]
      intro q1 q2
      have := hi k hkt q1
      by_cases h4 : s0 ≤ 4
      · have := hr h4; omega
      · have := hk (by omega) q2; omega
    · have hlt : k' < th := by omega
      rw [up1_lt hlt, up1_lt hlt]
      exact h.2.1 k k' hkk hlt
  · have hkt : k < th := by omega
    rw [up1_lt hkt, up1_lt hkt]
    by_cases e : k' = th
    · subst e
      rw [up1_e, up1_e]
      intro q1 q2
      have := (h.1 k hkt).2.2.2.2 q1
      have := hl q2
      omega
    · have hlt : k' < th := by omega
      rw [up1_lt hlt, up1_lt hlt]
      exact h.2.2 k k' hkk hlt
theorem Mm.grow {sz : Nat → Int32} {cells cells' : Nat → Int64} {mt mn mt' mn' : Nat → Int32} (h : Mm so dl ln th cells mt mn) (hT : Th so dl ln th us lm sz cells) (h8 : 8 ≤ us) (hc : ∀ c, c < us → cells' c = cells c) (hmt : ∀ y, y < 8 + 16 * th → mt' y = mt y) (hmn : ∀ y, y < 8 + 16 * th → mn' y = mn y) (hnew : ∀ i, i < 16 → ((s0 ≤ 4 ∧ i < l0) ∨ (5 ≤ s0 ∧ s0 ≤ 6 ∧ i = 0)) → V (up1 so th s0) (up1 dl th d0) (th + 1) (cells' (if s0 ≤ 4 then d0 + 1 + i else d0)) (mt' (8 + 16 * th + i)) (mn' (8 + 16 * th + i)) ∧ typ (up1 so th s0) (8 + 16 * th + i) (mt' (8 + 16 * th + i))) : Mm (up1 so th s0) (up1 dl th d0) (up1 ln th l0) (th + 1) cells' mt' mn' := by
  intro y hy
  rcases vld_new hy with ho | ⟨i, h1, h2, h3⟩
  · have hlt : y < 8 + 16 * th := by
      rcases ho with q | ⟨q1, q2, -⟩
      · omega
      · omega
    rw [cad_up ho, hc _ (cad_lt hT h8 ho), hmt y hlt, hmn y hlt]
    exact ⟨(h y ho).1.up, typ_up ho (h y ho).2⟩
  · subst h2
    have e1 : (8 + 16 * th + i - 8) / 16 = th := by omega
    have e2 : (8 + 16 * th + i - 8) % 16 = i := by omega
    have e : cad (up1 so th s0) (up1 dl th d0) (8 + 16 * th + i) = if s0 ≤ 4 then d0 + 1 + i else d0 := by
      unfold cad
      rw [if_neg (by omega), e1, e2, up1_e, up1_e]
    rw [e]
    exact hnew i h1 h3
theorem Lg.up {cc : Nat → Int32} {cf : Nat → Int64} {wh wt wn : Nat → Int32} (h : Lg so dl ln th ch cc cf wh wt wn) : Lg (up1 so th s0) (up1 dl th d0) (up1 ln th l0) (th + 1) ch cc cf wh wt wn := by
  intro j hj
  obtain ⟨y, h1, h2, h3, h4, h5⟩ := h j hj
  exact ⟨y, vld_up h1, by rw [cad_up h1]; exact h2, h3, h4.up, typ_up h1 h5⟩
theorem Sl.up {sl : Nat → Int64} {st sn : Nat → Int32} (h : Sl so dl th mk sl st sn) : Sl (up1 so th s0) (up1 dl th d0) (th + 1) mk sl st sn := fun j hj => (h j hj).up
theorem Lt.up {la lf ls lx lc ma mf ms mt mn : Nat → Int32} {lv : Nat → Int64} (h : Lt so dl th mk na la lf ls lx lc lv ma mf ms mt mn) (h7 : s0 ≠ 7) : Lt (up1 so th s0) (up1 dl th d0) (th + 1) mk na la lf ls lx lc lv ma mf ms mt mn := by
  intro k hk
  by_cases e : k = th
  · subst e
    rw [up1_e]
    exact fun q => absurd q h7
  · have hlt : k < th := by omega
    rw [up1_lt hlt, up1_lt hlt]
    intro q
    obtain ⟨a, b, c, d, e', f⟩ := h k hlt q
    refine ⟨a, b, c, d, e', ?_⟩
    rcases f with f | f | ⟨f1, f2⟩ | f
    · exact Or.inl f
    · exact Or.inr (Or.inl f)
    · exact Or.inr (Or.inr (Or.inl ⟨f1, f2.up⟩))
    · exact Or.inr (Or.inr (Or.inr f))
end GR
section GB
variable {so dl ln : Nat → Nat} {th us lm mk ch tl cl fl na lim : Nat} {σ μ : Sg} {v : Int64} {t x : Int32}
theorem mThing_I (μ : Sg) (k : Nat) (z : Int32) (o j : Nat) (h0 : o ≠ 0 ∨ j ≠ 6) (h5 : o ≠ 5 ∨ j ≠ k) (h6 : o ≠ 6 ∨ j < 16 * k ∨ 16 * k + 16 ≤ j) (h7 : o ≠ 7 ∨ j < 16 * k ∨ 16 * k + 16 ≤ j) : sI (mThing μ k z) o j = sI μ o j := by
  unfold mThing
  rw [mFill_I _ _ _ _ _ _ _ (by decide), if_neg (by omega), if_neg (by omega), sI_wI, if_neg (by omega), sI_wI, if_neg (by omega)]
/-- a new link that holds v -/
def mLink (μ : Sg) (k : Nat) (t x : Int32) : Sg := wI (wI (mThing μ k 1) 6 (16 * k) t) 7 (16 * k) x
theorem mLink_I (μ : Sg) (k : Nat) (t x : Int32) (o j : Nat) (h0 : o ≠ 0 ∨ j ≠ 6) (h5 : o ≠ 5 ∨ j ≠ k) (h6 : o ≠ 6 ∨ j < 16 * k ∨ 16 * k + 16 ≤ j) (h7 : o ≠ 7 ∨ j < 16 * k ∨ 16 * k + 16 ≤ j) : sI (mLink μ k t x) o j = sI μ o j := by
  unfold mLink
  rw [sI_wI, if_neg (by omega), sI_wI, if_neg (by omega), mThing_I _ _ _ _ _ h0 h5 h6 h7]
theorem Bs.link {s0 : Nat} (hB : Bs so dl ln th us lm mk ch tl cl fl na lim σ μ) (h8 : 8 ≤ us) (hs : s0 = 5 ∨ s0 = 6) (hV : V so dl th v t x) : Bs (up1 so th s0) (up1 dl th us) (up1 ln th 0) (th + 1) (us + 1) lm mk ch tl cl fl na lim (cLink σ us v) (mLink μ th t x) := by
  obtain ⟨b1, b2, b3, b4, b5, b6, ⟨c1, c2, c3, c4, c5, c6, c7⟩, ⟨d1, d2, d3, d4, d5, d6, d7, d8⟩, b9, b10⟩ := hB
  have F : ∀ o : Nat, o ≠ 0 → o ≠ 5 → o ≠ 6 → o ≠ 7 → sI (mLink μ th t x) o = sI μ o := fun o a1 a2 a3 a4 => funext (fun j => mLink_I μ th t x o j (Or.inl a1) (Or.inl a2) (Or.inl a3) (Or.inl a4))
  have R : ∀ j : Nat, j ≠ 6 → sI (mLink μ th t x) 0 j = sI μ 0 j := fun j hj => mLink_I μ th t x 0 j (Or.inr hj) (Or.inl (by decide)) (Or.inl (by decide)) (Or.inl (by decide))
  have hc : ∀ c, c < us → sL (cLink σ us v) 7 c = sL σ 7 c := by
    intro c hc
    have : ¬ c = us := by omega
    simp [cLink, sL_wL, sL_wI, this]
  refine ⟨?_, ?_, b3.up, ?_, ?_, ?_, ⟨?_, c2, ?_, c4, ?_, c6, ?_⟩, ⟨d1, ?_, d3, ?_, d5, ?_, d7, ?_⟩, ?_, b10⟩
  · refine b1.grow h8 (by omega) (Nat.le_refl _) (fun k hk => ?_) hc (by omega) (by omega) (fun q => by omega) (fun _ _ => ⟨Nat.le_refl _, by omega, rfl⟩) (fun q => by omega)
    exact mLink_I μ th t x 5 k (Or.inl (by decide)) (Or.inr (by omega)) (Or.inl (by decide)) (Or.inl (by decide))
  · refine b2.grow b1 h8 hc (fun y hy => ?_) (fun y hy => ?_) (fun i hi hn => ?_)
    · unfold mT
      split
      · rw [F 15 (by decide) (by decide) (by decide) (by decide)]
      · exact mLink_I μ th t x 6 _ (Or.inl (by decide)) (Or.inl (by decide)) (Or.inr (by omega)) (Or.inl (by decide))
    · unfold mN
      split
      · rw [F 16 (by decide) (by decide) (by decide) (by decide)]
      · exact mLink_I μ th t x 7 _ (Or.inl (by decide)) (Or.inl (by decide)) (Or.inl (by decide)) (Or.inr (by omega))
    · have hi0 : i = 0 := by omega
      subst hi0
      rw [if_neg (by omega)]
      have e1 : sL (cLink σ us v) 7 us = v := by simp [cLink, sL_wL]
      have e2 : mT (mLink μ th t x) (8 + 16 * th + 0) = t := by
        unfold mT
        rw [if_neg (by omega), show 8 + 16 * th + 0 - 8 = 16 * th by omega]
        simp [mLink, sI_wI]
      have e3 : mN (mLink μ th t x) (8 + 16 * th + 0) = x := by
        unfold mN
        rw [if_neg (by omega), show 8 + 16 * th + 0 - 8 = 16 * th by omega]
        simp [mLink, sI_wI]
      rw [e1, e2, e3]
      refine ⟨hV.up, fun _ => ?_⟩
      rw [show (8 + 16 * th + 0 - 8) / 16 = th by omega, up1_e]
      exact ⟨by omega, by omega, by omega⟩
  · rw [F 13 (by decide) (by decide) (by decide) (by decide), F 14 (by decide) (by decide) (by decide) (by decide)]
    exact Sl.up b4
  · rw [F 8 (by decide) (by decide) (by decide) (by decide), F 9 (by decide) (by decide) (by decide) (by decide), F 10 (by decide) (by decide) (by decide) (by decide), F 11 (by decide) (by decide) (by decide) (by decide), F 12 (by decide) (by decide) (by decide) (by decide)]
    exact Lt.up b5 (by omega)
  · rw [F 20 (by decide) (by decide) (by decide) (by decide)]
    exact b6
  · simp [cLink, sI_wI, sI_wL]
  · rw [R 20 (by decide)]; exact c3
  · rw [R 15 (by decide)]; exact c5
  · unfold mLink mThing
    rw [i_o (by decide), i_o (by decide), mFill_I _ _ _ _ _ _ _ (by decide), if_neg (by omega), if_neg (by omega), i_o (by decide), i_e]
  · rw [R 24 (by decide)]; exact d2
  · rw [R 47 (by decide)]; exact d4
  · rw [R 44 (by decide)]; exact d6
  · rw [R 46 (by decide)]; exact d8
  · rw [R 5 (by decide)]; exact b9
/-- n whole 0s from the place c on -/
def mZero (μ : Sg) (c : Nat) : Nat → Sg
  | 0 => μ
  | n + 1 => wI (mZero μ c n) 6 (c + n) 0
theorem mZero_I (μ : Sg) (c n o j : Nat) : sI (mZero μ c n) o j = if o = 6 ∧ c ≤ j ∧ j < c + n then 0 else sI μ o j := by
  induction n with
  | zero => rw [if_neg (by omega)]; rfl
  | succ n ih =>
    show sI (wI (mZero μ c n) 6 (c + n) 0) o j = _
    rw [sI_wI, ih]
    by_cases h1 : o = 6 ∧ j = c + n
    · rw [if_pos h1, if_pos (by omega)]
    · rw [if_neg h1]
      by_cases h2 : o = 6 ∧ c ≤ j ∧ j < c + n
      · rw [if_pos h2, if_pos (by omega)]
      · rw [if_neg h2, if_neg (by omega)]
def mRow (μ : Sg) (k n s0 : Nat) : Sg := if s0 = 2 then mZero (mThing μ k (nI n)) (16 * k) n else mThing μ k (nI n)
theorem mRow_I (μ : Sg) (k n s0 : Nat) (o j : Nat) (hn : n ≤ 16) (h0 : o ≠ 0 ∨ j ≠ 6) (h5 : o ≠ 5 ∨ j ≠ k) (h6 : o ≠ 6 ∨ j < 16 * k ∨ 16 * k + 16 ≤ j) (h7 : o ≠ 7 ∨ j < 16 * k ∨ 16 * k + 16 ≤ j) : sI (mRow μ k n s0) o j = sI μ o j := by
  unfold mRow
  split
  · rw [mZero_I, if_neg (by omega), mThing_I _ _ _ _ _ h0 h5 h6 h7]
  · exact mThing_I _ _ _ _ _ h0 h5 h6 h7
theorem Bs.row {s0 n : Nat} (hB : Bs so dl ln th us lm mk ch tl cl fl na lim σ μ) (h8 : 8 ≤ us) (hs : 2 ≤ s0) (hs4 : s0 ≤ 4) (hn : n ≤ 16) : Bs (up1 so th s0) (up1 dl th us) (up1 ln th n) (th + 1) (us + 1 + n) lm mk ch tl cl fl na lim (cRow σ us n (if nI s0 = 2 then pk 0 0 else pk 1 0)) (mRow μ th n s0) := by
  obtain ⟨b1, b2, b3, b4, b5, b6, ⟨c1, c2, c3, c4, c5, c6, c7⟩, ⟨d1, d2, d3, d4, d5, d6, d7, d8⟩, b9, b10⟩ := hB
  have F : ∀ o : Nat, o ≠ 0 → o ≠ 5 → o ≠ 6 → o ≠ 7 → sI (mRow μ th n s0) o = sI μ o := fun o a1 a2 a3 a4 => funext (fun j => mRow_I μ th n s0 o j hn (Or.inl a1) (Or.inl a2) (Or.inl a3) (Or.inl a4))
  have R : ∀ j : Nat, j ≠ 6 → sI (mRow μ th n s0) 0 j = sI μ 0 j := fun j hj => mRow_I μ th n s0 0 j hn (Or.inr hj) (Or.inl (by decide)) (Or.inl (by decide)) (Or.inl (by decide))
  have CI : ∀ (fv : Int64) (o j : Nat), (o ≠ 6 ∨ j ≠ 3) → sI (cRow σ us n fv) o j = sI σ o j := by
    intro fv o j h
    unfold cRow
    rw [cFill_I, sI_wL, sI_wI, if_neg (by omega)]
  have CF : ∀ (fv : Int64) (o : Nat), o ≠ 6 → sI (cRow σ us n fv) o = sI σ o := fun fv o h => funext (fun j => CI fv o j (Or.inl h))
  have CL : ∀ (fv : Int64) (o j : Nat), o ≠ 7 → sL (cRow σ us n fv) o j = sL σ o j := by
    intro fv o j h
    unfold cRow
    rw [cFill_L, if_neg (by omega), l_o h]
    rfl
  have CLF : ∀ (fv : Int64) (o : Nat), o ≠ 7 → sL (cRow σ us n fv) o = sL σ o := fun fv o h => funext (fun j => CL fv o j h)
  have hc : ∀ (fv : Int64) (c : Nat), c < us → sL (cRow σ us n fv) 7 c = sL σ 7 c := by
    intro fv c hc
    unfold cRow
    rw [cFill_L, if_neg (by omega), sL_wL, if_neg (by omega)]
    rfl
  have hd : ∀ fv : Int64, sL (cRow σ us n fv) 7 us = pk 0 (nI n) := by
    intro fv
    unfold cRow
    rw [cFill_L, if_neg (by omega), l_e]
  have hp : ∀ (fv : Int64) (i : Nat), i < n → sL (cRow σ us n fv) 7 (us + 1 + i) = fv := by
    intro fv i hi
    unfold cRow
    rw [cFill_L, if_pos (by omega)]
  generalize hfv : (if nI s0 = 2 then pk 0 0 else pk 1 0) = fv
  refine ⟨?_, ?_, ?_, ?_, ?_, ?_, ⟨?_, ?_, ?_, ?_, ?_, ?_, ?_⟩, ⟨?_, ?_, ?_, ?_, ?_, ?_, ?_, ?_⟩, ?_, ?_⟩
  · refine b1.grow h8 (by omega) (Nat.le_refl _) (fun k hk => ?_) (hc fv) (by omega) (by omega) (fun q => ⟨?_, hn, Nat.le_refl _, by omega, hd fv⟩) (fun _ _ => by omega) (fun q => by omega)
    · exact mRow_I μ th n s0 5 k hn (Or.inl (by decide)) (Or.inr (by omega)) (Or.inl (by decide)) (Or.inl (by decide))
    · have e5 : sI (mThing μ th (nI n)) 5 th = nI n := by
        unfold mThing
        rw [mFill_I _ _ _ _ _ _ _ (by decide), if_neg (by omega), if_neg (by omega), i_e]
      unfold mRow
      split
      · rw [mZero_I, if_neg (by omega)]
        exact e5
      · exact e5
  · refine b2.grow b1 h8 (hc fv) (fun y hy => ?_) (fun y hy => ?_) (fun i hi hn' => ?_)
    · unfold mT
      split
      · rw [F 15 (by decide) (by decide) (by decide) (by decide)]
      · exact mRow_I μ th n s0 6 _ hn (Or.inl (by decide)) (Or.inl (by decide)) (Or.inr (by omega)) (Or.inl (by decide))
    · unfold mN
      split
      · rw [F 16 (by decide) (by decide) (by decide) (by decide)]
      · exact mRow_I μ th n s0 7 _ hn (Or.inl (by decide)) (Or.inl (by decide)) (Or.inl (by decide)) (Or.inr (by omega))
    · have hin : i < n := by omega
      rw [if_pos hs4, hp fv i hin]
      have eN : mN (mRow μ th n s0) (8 + 16 * th + i) = 0 := by
        unfold mN mRow mThing
        rw [if_neg (by omega), show 8 + 16 * th + i - 8 = 16 * th + i by omega]
        split
        · rw [mZero_I, if_neg (by omega), mFill_I _ _ _ _ _ _ _ (by decide), if_pos (by omega)]
        · rw [mFill_I _ _ _ _ _ _ _ (by decide), if_pos (by omega)]
      have eT : mT (mRow μ th n s0) (8 + 16 * th + i) = if s0 = 2 then 0 else 1 := by
        unfold mT mRow mThing
        rw [if_neg (by omega), show 8 + 16 * th + i - 8 = 16 * th + i by omega]
        by_cases h2 : s0 = 2
        · rw [if_pos h2, if_pos h2, mZero_I, if_pos (by omega)]
        · rw [if_neg h2, if_neg h2, mFill_I _ _ _ _ _ _ _ (by decide), if_neg (by omega), if_pos (by omega)]
      rw [eN, eT]
      have et : (8 + 16 * th + i - 8) / 16 = th := by omega
      by_cases h2 : s0 = 2
      · subst h2
        rw [if_pos (show nI 2 = 2 from rfl)] at hfv
        rw [if_pos rfl, ← hfv]
        refine ⟨V.w 0, fun _ => ?_⟩
        rw [et, up1_e]
        exact ⟨fun _ => rfl, fun q => by omega, fun q => by omega⟩
      · have hne : ¬ nI s0 = (2 : Int32) := fun q => h2 (eqN (b := 2) q (by omega) (by decide))
        rw [if_neg hne] at hfv
        rw [if_neg h2, ← hfv]
        refine ⟨V.no, fun _ => ?_⟩
        rw [et, up1_e]
        exact ⟨fun q => absurd q h2, fun _ => Or.inl rfl, fun _ => Or.inl rfl⟩
  · rw [CF fv 8 (by decide), CLF fv 9 (by decide), F 17 (by decide) (by decide) (by decide) (by decide), F 18 (by decide) (by decide) (by decide) (by decide), F 19 (by decide) (by decide) (by decide) (by decide)]
    exact b3.up
  · rw [CLF fv 13 (by decide), F 13 (by decide) (by decide) (by decide) (by decide), F 14 (by decide) (by decide) (by decide) (by decide)]
    exact Sl.up b4
  · rw [CF fv 15 (by decide), CF fv 16 (by decide), CF fv 17 (by decide), CF fv 18 (by decide), CF fv 19 (by decide), CLF fv 20 (by decide), F 8 (by decide) (by decide) (by decide) (by decide), F 9 (by decide) (by decide) (by decide) (by decide), F 10 (by decide) (by decide) (by decide) (by decide), F 11 (by decide) (by decide) (by decide) (by decide), F 12 (by decide) (by decide) (by decide) (by decide)]
    exact Lt.up b5 (by omega)
  · rw [CF fv 11 (by decide), F 20 (by decide) (by decide) (by decide) (by decide)]
    exact b6
  · unfold cRow
    rw [cFill_I, sI_wL, i_e]
  · rw [CI fv 6 4 (by decide)]; exact c2
  · rw [R 20 (by decide)]; exact c3
  · rw [CI fv 12 1 (by decide)]; exact c4
  · rw [R 15 (by decide)]; exact c5
  · rw [CI fv 14 6 (by decide)]; exact c6
  · have e6 : sI (mThing μ th (nI n)) 0 6 = nI (th + 1) := by
      unfold mThing
      rw [mFill_I _ _ _ _ _ _ _ (by decide), if_neg (by omega), if_neg (by omega), i_o (by decide), i_e]
    unfold mRow
    split
    · rw [mZero_I, if_neg (by omega)]
      exact e6
    · exact e6
  · rw [CI fv 5 4 (by decide)]; exact d1
  · rw [R 24 (by decide)]; exact d2
  · rw [CI fv 5 8 (by decide)]; exact d3
  · rw [R 47 (by decide)]; exact d4
  · rw [CI fv 10 2 (by decide)]; exact d5
  · rw [R 44 (by decide)]; exact d6
  · rw [CI fv 10 0 (by decide)]; exact d7
  · rw [R 46 (by decide)]; exact d8
  · rw [CI fv 0 2 (by decide), R 5 (by decide)]; exact b9
  · rw [CL fv 10 6 (by decide)]; exact b10
end GB
