section CO
variable {σ : Sg}
/-! Acts -/
theorem c_has {a na : Nat} {Q : Int32 → Sg → Prop} (hz : sI σ 1 3 = nI na) (hn : na ≤ 60) (ha : a < na) (k : Q 1 σ) : wX0_has σ (nI a) Q := by
  unfold wX0_has
  refine gF (nn0 a rfl (by omega)) (gT (ltN a na rfl hz ha (by omega)) k)
theorem c_hasNot {x : Int32} {na : Nat} {Q : Int32 → Sg → Prop} (hz : sI σ 1 3 = nI na) (h : x < 0 ∨ (¬ x < 0 ∧ ¬ x < nI na)) (k : Q 0 σ) : wX0_has σ x Q := by
  unfold wX0_has
  rcases h with h | ⟨h, h2⟩
  · exact gT h k
  · exact gF h (gF (by rw [hz]; exact h2) k)
theorem c_given {a na w : Nat} {wx : Int32} {Q : Int32 → Sg → Prop} (hz : sI σ 1 3 = nI na) (hn : na ≤ 60) (ha : a < na) (hw : wx = nI w) (h4 : w < 4) (k : Q (sI σ 2 (4 * a + w)) σ) : wX0_given σ (nI a) wx Q := by
  unfold wX0_given
  refine c_has hz hn ha (gF ne10 (gF (nn0 w hw (by omega)) (gT (ltN w 4 hw rfl h4 (by decide)) ?_)))
  have e : ((4 : Int32) * nI a) + wx = nI (4 * a + w) := addN (4 * a) w (mulN 4 a rfl rfl) hw
  rw [e, nI_clamp (by omega)]
  exact ⟨vp_in_nI (by omega) (by decide), k⟩
theorem c_part {a na w : Nat} {wx : Int32} {Q : Int32 → Sg → Prop} (hz : sI σ 1 3 = nI na) (hn : na ≤ 60) (ha : a < na) (hw : wx = nI w) (h4 : w < 3) (k : Q (sI σ 3 (3 * a + w)) σ) : wX0_part σ (nI a) wx Q := by
  unfold wX0_part
  refine c_has hz hn ha (gF ne10 (gF (nn0 w hw (by omega)) (gT (ltN w 3 hw rfl h4 (by decide)) ?_)))
  have e : ((3 : Int32) * nI a) + wx = nI (3 * a + w) := addN (3 * a) w (mulN 3 a rfl rfl) hw
  rw [e, nI_clamp (by omega)]
  exact ⟨vp_in_nI (by omega) (by decide), k⟩
theorem c_ahead {a na : Nat} {Q : Int32 → Sg → Prop} (hz : sI σ 1 3 = nI na) (hn : na ≤ 60) (ha : a < na) (k : Q (sI σ 4 a) σ) : wX0_partsAhead σ (nI a) Q := by
  unfold wX0_partsAhead
  refine c_has hz hn ha (gF ne10 ?_)
  rw [nI_clamp (by omega)]
  exact ⟨vp_in_nI (by omega) (by decide), k⟩
/-! Stack -/
theorem c_act {t : Nat} {Q : Int32 → Sg → Prop} (h : sI σ 21 9 = nI t) (ht : t < 200) (k : Q (sI σ 22 t) σ) : wX8_actOnTop σ Q := by
  unfold wX8_actOnTop
  rw [h, nI_clamp (by omega)]
  exact ⟨vp_in_nI ht (by decide), k⟩
theorem c_stage {t : Nat} {Q : Int32 → Sg → Prop} (h : sI σ 21 9 = nI t) (ht : t < 200) (k : Q (sI σ 24 t) σ) : wX8_stage σ Q := by
  unfold wX8_stage
  rw [h, nI_clamp (by omega)]
  exact ⟨vp_in_nI ht (by decide), k⟩
theorem c_frame {t : Nat} {Q : Int32 → Sg → Prop} (h : sI σ 21 9 = nI t) (ht : t < 200) (k : Q (sI σ 23 t) σ) : wX8_frame σ Q := by
  unfold wX8_frame
  rw [h, nI_clamp (by omega)]
  exact ⟨vp_in_nI ht (by decide), k⟩
theorem c_mark {t : Nat} {Q : Int32 → Sg → Prop} (h : sI σ 21 9 = nI t) (ht : t < 200) (k : Q (sI σ 26 t) σ) : wX8_mark σ Q := by
  unfold wX8_mark
  rw [h, nI_clamp (by omega)]
  exact ⟨vp_in_nI ht (by decide), k⟩
theorem c_setStage {t : Nat} {x : Int32} {Q : Sg → Prop} (h : sI σ 21 9 = nI t) (ht : t < 200) (k : Q (wI σ 24 t x)) : wX8_setStage σ x Q := by
  unfold wX8_setStage
  rw [h, nI_clamp (by omega)]
  exact ⟨vp_in_nI ht (by decide), k⟩
theorem c_value {t w : Nat} {wx : Int32} {Q : Int64 → Sg → Prop} (h : sI σ 21 9 = nI t) (ht : t < 200) (hw : wx = nI w) (h3 : w < 3) (k : Q (sL σ 25 (3 * t + w)) σ) : wX8_value σ wx Q := by
  unfold wX8_value
  refine gF (nn0 w hw (by omega)) (gT (ltN w 3 hw rfl h3 (by decide)) ?_)
  have e : ((3 : Int32) * sI σ 21 9) + wx = nI (3 * t + w) := addN (3 * t) w (mulN 3 t rfl h) hw
  rw [e, nI_clamp (by omega)]
  exact ⟨vp_in_nI (by omega) (by decide), k⟩
theorem c_holds {t : Nat} {Q : Int32 → Sg → Prop} (h : sI σ 21 9 = nI t) (ht : t < 200) (k0 : sI σ 27 t = 0 → Q 0 σ) (k1 : ¬ sI σ 27 t = 0 → Q 1 σ) : wX8_holdsFailure σ Q := by
  unfold wX8_holdsFailure
  rw [h, nI_clamp (by omega)]
  exact ⟨vp_in_nI ht (by decide), k0, k1⟩
/-- the stack with one entry less; t is the place of the topmost one -/
def cPop (σ : Sg) (t : Nat) : Sg := wI (wI σ 21 8 (nI t)) 21 9 (nI (t - 1))
theorem c_pop {t : Nat} {Q : Sg → Prop} (h : sI σ 21 9 = nI t) (ht : t < 200) (k : Q (cPop σ t)) : wX8_pop σ Q := by
  unfold wX8_pop wX8_pop_26
  rw [h]
  by_cases h0 : 0 < t
  · refine gT (ltN 0 t rfl rfl h0 (by omega)) ?_
    rw [show nI t - (1 : Int32) = nI (t - 1) from subN t 1 rfl rfl h0]
    exact k
  · refine gF (nltN 0 t rfl rfl (by omega) (by decide)) ?_
    have e : t - 1 = 0 := by omega
    unfold cPop at k
    rw [e] at k
    exact k
def cPush (σ : Sg) (n : Nat) (a f m : Int32) : Sg := wI (wI (wI (wI (wI (wI (wI σ 21 9 (nI n)) 21 8 (nI (n + 1))) 22 n a) 23 n f) 24 n 0) 26 n m) 27 n 0
theorem c_push {n : Nat} {a f m : Int32} {Q : Sg → Prop} (h : sI σ 21 8 = nI n) (hn : n < 200) (k : Q (cPush σ n a f m)) : wX8_push σ a f m Q := by
  unfold wX8_push
  refine gT (ltN n 200 h rfl hn (by decide)) ?_
  rw [h, nI_clamp (by omega), nI_1]
  have hv : vp_in (nI n) 200 := vp_in_nI hn (by decide)
  exact ⟨hv, hv, hv, hv, hv, k⟩
def cTake (σ : Sg) (t s : Nat) (v : Int64) : Sg := wI (wL σ 25 (3 * t + s) v) 24 t (nI (s + 1))
theorem c_take {t s : Nat} {v : Int64} {Q : Sg → Prop} (h : sI σ 21 9 = nI t) (ht : t < 200) (hs : sI σ 24 t = nI s) (h3 : s < 3) (k : Q (cTake σ t s v)) : wX8_take σ v Q := by
  unfold wX8_take
  rw [h, nI_clamp (by omega), hs]
  refine ⟨vp_in_nI ht (by decide), gF (nn0 s rfl (by omega)) (gT (ltN s 3 rfl rfl h3 (by decide)) ?_)⟩
  have e : ((3 : Int32) * nI t) + nI s = nI (3 * t + s) := addN (3 * t) s (mulN 3 t rfl rfl) rfl
  rw [e, nI_clamp (by omega), nI_1]
  exact ⟨vp_in_nI (by omega) (by decide), vp_in_nI ht (by decide), k⟩
def cHold (σ : Sg) (t : Nat) : Sg := wI (wI (wI σ 27 t (sI σ 10 3)) 28 t (sI σ 10 4)) 29 t (sI σ 10 5)
theorem c_hold {t : Nat} {Q : Sg → Prop} (h : sI σ 21 9 = nI t) (ht : t < 200) (k : Q (cHold σ t)) : wX8_hold σ Q := by
  unfold wX8_hold
  rw [h, nI_clamp (by omega)]
  have hv : vp_in (nI t) 200 := vp_in_nI ht (by decide)
  exact ⟨hv, hv, hv, k⟩
/-! Course -/
def cGo (σ : Sg) (e c a : Int32) : Sg := wI (wI (wI σ 10 3 e) 10 4 c) 10 5 a
theorem c_goOn {e c a : Int32} {Q : Sg → Prop} (k : Q (cGo σ e c a)) : wX1_goOn σ e c a Q := k
theorem c_settle {Q : Sg → Prop} (k : Q (cGo σ 0 0 (-1))) : wX1_settle σ Q := k
theorem c_end {e a : Int32} {Q : Sg → Prop} (k : Q (cGo σ e 0 a)) : wX1_end σ e a Q := k
theorem c_letGo {t : Nat} {Q : Sg → Prop} (h : sI σ 21 9 = nI t) (ht : t < 200) (k : Q (cGo σ (sI σ 27 t) (sI σ 28 t) (sI σ 29 t))) : wX8_letGo σ Q := by
  unfold wX8_letGo
  rw [h, nI_clamp (by omega)]
  have hv : vp_in (nI t) 200 := vp_in_nI ht (by decide)
  exact ⟨hv, hv, hv, c_goOn k⟩
/-- a failure arises: the f-th -/
def cArise (σ : Sg) (f : Nat) (e c a : Int32) : Sg := if 20 < f + 1 then cGo (wI σ 10 2 (nI (f + 1))) 10 0 a else cGo (wI σ 10 2 (nI (f + 1))) e c a
theorem c_arise {f : Nat} {e c a : Int32} {Q : Sg → Prop} (h : sI σ 10 2 = nI f) (hf : f ≤ 20) (k : Q (cArise σ f e c a)) : wX1_arise σ e c a Q := by
  unfold wX1_arise wX1_arise_24 wX1_arise_38 wX1_arise_52
  rw [h, nI_1]
  unfold cArise at k
  by_cases h2 : 20 < f + 1
  · rw [if_pos h2] at k
    exact gT (ltN 20 (f + 1) rfl rfl h2 (by omega)) (gF ne10 (gF ne10 k))
  · rw [if_neg h2] at k
    exact gF (nltN 20 (f + 1) rfl rfl (by omega) (by decide)) (gT rfl (gT rfl k))
theorem c_takesStep {s l : Nat} {a : Int32} {Q : Int32 → Sg → Prop} (hs : sI σ 10 1 = nI s) (hl : sI σ 10 0 = nI l) (hb : l ≤ 200) (hsl : s ≤ l) (k1 : s < l → Q 1 (wI σ 10 1 (nI (s + 1)))) (k0 : s = l → Q 0 (cGo σ 9 0 a)) : wX1_takesStep σ a Q := by
  unfold wX1_takesStep
  by_cases h : s < l
  · refine gT (ltN s l hs hl h (by omega)) ?_
    rw [hs, nI_1]
    exact k1 h
  · exact gF (nltN s l hs hl (by omega) (by omega)) (k0 (by omega))
theorem c_failing {q : Nat} {Q : Int32 → Sg → Prop} (h : sI σ 10 3 = nI q) (hq : q < 9) (h0 : 0 < q) (k : Q 1 σ) : wX1_isFailing σ Q := by
  unfold wX1_isFailing
  exact gT (ltN 0 q rfl h h0 (by omega)) (gT (ltN q 9 h rfl hq (by decide)) k)
theorem c_failingNot {q : Nat} {Q : Int32 → Sg → Prop} (h : sI σ 10 3 = nI q) (hq : 9 ≤ q) (hq2 : q < 100) (k : Q 0 σ) : wX1_isFailing σ Q := by
  unfold wX1_isFailing
  exact gT (ltN 0 q rfl h (by omega) (by omega)) (gF (nltN q 9 h rfl hq (by omega)) k)
/-! Memory -/
theorem c_read {c u : Nat} {x : Int32} {Q : Int64 → Sg → Prop} (hx : x = nI c) (hu : sI σ 6 3 = nI u) (hu2 : u ≤ 1708) (hc : c < u) (k : Q (sL σ 7 c) σ) : wX7_read σ x Q := by
  subst hx
  unfold wX7_read
  refine gF (nn0 c rfl (by omega)) (gT (ltN c u rfl hu hc (by omega)) ?_)
  rw [nI_clamp (by omega)]
  exact ⟨vp_in_nI (by omega) (by decide), k⟩
def cWrite (σ : Sg) (g c : Nat) (v : Int64) : Sg := wL (wI (wL (wI σ 8 g (nI c)) 9 g (sL σ 7 c)) 6 4 (nI (g + 1))) 7 c v
theorem c_write {c u g : Nat} {x : Int32} {v : Int64} {Q : Sg → Prop} (hx : x = nI c) (hu : sI σ 6 3 = nI u) (hu2 : u ≤ 1708) (hc : c < u) (hg : sI σ 6 4 = nI g) (hg2 : g < 1700) (k : Q (cWrite σ g c v)) : wX7_write σ x v Q := by
  subst hx
  unfold wX7_write
  refine gF (nn0 c rfl (by omega)) (gT (ltN c u rfl hu hc (by omega)) (gT (ltN g 1700 hg rfl hg2 (by decide)) ?_))
  rw [hg, nI_clamp (by omega), nI_clamp (by omega), nI_1]
  have hv : vp_in (nI g) 1700 := vp_in_nI hg2 (by decide)
  have hw : vp_in (nI c) 1708 := vp_in_nI (by omega) (by decide)
  exact ⟨hv, hw, hv, hw, k⟩
theorem c_cellOf {v : Int64} {i : Int32} {Q : Int32 → Sg → Prop} (k : Q ((nbr v + 1) + i) σ) : wX7_cellOf σ v i Q := k
theorem c_lengthOf {v : Int64} {u c : Nat} {Q : Int32 → Sg → Prop} (hu : sI σ 6 3 = nI u) (hu2 : u ≤ 1708) (hr : isRw (srt v)) (hc : nbr v = nI c) (hcu : c < u) (k : Q (nbr (sL σ 7 c)) σ) : wX7_lengthOf σ v Q := by
  unfold wX7_lengthOf
  exact c_isRow (fun _ => gF ne10 (c_number (c_read hc hu hu2 hcu (c_number k)))) (fun q => absurd hr q)
theorem c_lengthNo {v : Int64} {Q : Int32 → Sg → Prop} (hr : ¬ isRw (srt v)) (k : Q 0 σ) : wX7_lengthOf σ v Q := by
  unfold wX7_lengthOf
  exact c_isRow (fun q => absurd q hr) (fun _ => gT rfl k)
def cLink (σ : Sg) (u : Nat) (v : Int64) : Sg := wL (wI σ 6 3 (nI (u + 1))) 7 u v
theorem c_newLink {t : Int32} {v : Int64} {u : Nat} {Q : Int64 → Sg → Prop} (hu : sI σ 6 3 = nI u) (hu2 : u < 1708) (k : Q (pk t (nI u)) (cLink σ u v)) : wX7_newLink σ t v Q := by
  unfold wX7_newLink
  refine gT (ltN u 1708 hu rfl hu2 (by decide)) ?_
  rw [hu, nI_clamp (by omega), nI_1]
  exact ⟨vp_in_nI hu2 (by decide), c_of k⟩
/-- n longs v from the cell c on -/
def cFill (σ : Sg) (c : Nat) (v : Int64) : Nat → Sg
  | 0 => σ
  | n + 1 => wL (cFill σ c v n) 7 (c + n) v
theorem cFill_I (σ : Sg) (c : Nat) (v : Int64) (n o j : Nat) : sI (cFill σ c v n) o j = sI σ o j := by
  induction n with
  | zero => rfl
  | succ n ih => exact ih
theorem cFill_L (σ : Sg) (c : Nat) (v : Int64) (n o j : Nat) : sL (cFill σ c v n) o j = if o = 7 ∧ c ≤ j ∧ j < c + n then v else sL σ o j := by
  induction n with
  | zero =>
    have : ¬ (o = 7 ∧ c ≤ j ∧ j < c + 0) := by omega
    rw [if_neg this]
    rfl
  | succ n ih =>
    show sL (wL (cFill σ c v n) 7 (c + n) v) o j = _
    rw [sL_wL, ih]
    by_cases h1 : o = 7 ∧ j = c + n
    · rw [if_pos h1, if_pos (by omega)]
    · rw [if_neg h1]
      by_cases h2 : o = 7 ∧ c ≤ j ∧ j < c + n
      · rw [if_pos h2, if_pos (by omega)]
      · rw [if_neg h2, if_neg (by omega)]
theorem c_rowLoop {t l3 : Int32} {v : Int64} {u c : Nat} {Q : Int64 → Sg → Prop} (hu : sI σ 6 3 = nI u) (hu2 : u ≤ 1708) : ∀ (n m : Nat), c + m + n = u → Q (pk t l3) (cFill σ c v (m + n)) → wX7_newRow_79 (n + 1) (cFill σ c v m) t l3 v (nI (c + m)) Q := by
  intro n
  induction n with
  | zero =>
    intro m hm k
    unfold wX7_newRow_79
    refine gF (nltN (c + m) u rfl (by rw [cFill_I]; exact hu) (by omega) (by omega)) (c_of k)
  | succ n ih =>
    intro m hm k
    unfold wX7_newRow_79
    refine gT (ltN (c + m) u rfl (by rw [cFill_I]; exact hu) (by omega) (by omega)) ?_
    rw [nI_clamp (by omega), nI_1]
    refine ⟨vp_in_nI (by omega) (by decide), ?_⟩
    have := ih (m + 1) (by omega) (by rw [show m + 1 + n = m + (n + 1) by omega]; exact k)
    exact this
/-- a new row of n places -/
def cRow (σ : Sg) (u n : Nat) (v : Int64) : Sg := cFill (wL (wI σ 6 3 (nI (u + 1 + n))) 7 u (pk 0 (nI n))) (u + 1) v n
theorem c_newRow {t : Int32} {n u : Nat} {Q : Int64 → Sg → Prop} (hn : n ≤ 16) (hu : sI σ 6 3 = nI u) (hu2 : u + 1 + n ≤ 1708) (k : Q (pk t (nI u)) (cRow σ u n (if t = 2 then pk 0 0 else pk 1 0))) : wX7_newRow σ t (nI n) Q := by
  unfold wX7_newRow
  refine gF (nn0 n rfl (by omega)) (gF (nltN 16 n rfl rfl hn (by decide)) ?_)
  have e1 : (sI σ 6 3 + (1 : Int32)) + nI n = nI (u + 1 + n) := addN (u + 1) n (addN u 1 hu rfl) rfl
  have e2 : sI σ 6 3 + ((1 : Int32) + nI n) = nI (u + 1 + n) := (addN u (1 + n) hu (addN 1 n rfl rfl)).trans (by congr 1; omega)
  refine gF (nltN 1708 (u + 1 + n) rfl e1 hu2 (by decide)) ?_
  rw [e2, hu]
  refine c_whole ?_
  rw [nI_clamp (by omega)]
  refine ⟨vp_in_nI (by omega) (by decide), ?_⟩
  have loop : ∀ v : Int64, Q (pk t (nI u)) (cRow σ u n v) → wX7_newRow_72 (wL (wI σ 6 3 (nI (u + 1 + n))) 7 u (pk 0 (nI n))) t (nI u) v Q := by
    intro v kv
    unfold wX7_newRow_72
    rw [nI_1]
    refine ⟨n + 1, ?_⟩
    have h1 : sI (wL (wI σ 6 3 (nI (u + 1 + n))) 7 u (pk 0 (nI n))) 6 3 = nI (u + 1 + n) := by rw [sI_wL, i_e]
    exact c_rowLoop (c := u + 1) h1 hu2 n 0 (by omega) (by rw [Nat.zero_add]; exact kv)
  by_cases h : t = 2
  · rw [if_pos h] at k
    exact gT h (c_whole (loop _ k))
  · rw [if_neg h] at k
    refine gF h (loop _ ?_)
    rw [pk_none]
    exact k
/-! Frames -/
theorem c_fhas {f m j : Nat} {x : Int32} {Q : Int32 → Sg → Prop} (hm : sI σ 12 1 = nI m) (hm2 : m ≤ 101) (hf : f < m) (hx : x = nI j) (hj : j < 8) (k : Q 1 σ) : wX3_has σ (nI f) x Q := by
  unfold wX3_has
  exact gF (nn0 f rfl (by omega)) (gT (ltN f m rfl hm hf (by omega)) (gF (nn0 j hx (by omega)) (gT (ltN j 8 hx rfl hj (by decide)) k)))
theorem c_fread {f m j : Nat} {x : Int32} {Q : Int64 → Sg → Prop} (hm : sI σ 12 1 = nI m) (hm2 : m ≤ 101) (hf : f < m) (hx : x = nI j) (hj : j < 8) (k : Q (sL σ 13 (8 * f + j)) σ) : wX3_read σ (nI f) x Q := by
  unfold wX3_read
  refine c_fhas hm hm2 hf hx hj (gF ne10 ?_)
  have e : ((8 : Int32) * nI f) + x = nI (8 * f + j) := addN (8 * f) j (mulN 8 f rfl rfl) hx
  rw [e, nI_clamp (by omega)]
  exact ⟨vp_in_nI (by omega) (by decide), k⟩
theorem c_fwrite {f m j : Nat} {x : Int32} {v : Int64} {Q : Sg → Prop} (hm : sI σ 12 1 = nI m) (hm2 : m ≤ 101) (hf : f < m) (hx : x = nI j) (hj : j < 8) (k : Q (wL σ 13 (8 * f + j) v)) : wX3_write σ (nI f) x v Q := by
  unfold wX3_write
  refine c_fhas hm hm2 hf hx hj (gF ne10 ?_)
  have e : ((8 : Int32) * nI f) + x = nI (8 * f + j) := addN (8 * f) j (mulN 8 f rfl rfl) hx
  rw [e, nI_clamp (by omega)]
  exact ⟨vp_in_nI (by omega) (by decide), k⟩
/-- n nothings from the slot c on -/
def cSlots (σ : Sg) (c : Nat) : Nat → Sg
  | 0 => σ
  | n + 1 => wL (cSlots σ c n) 13 (c + n) (pk 1 0)
theorem cSlots_I (σ : Sg) (c n o j : Nat) : sI (cSlots σ c n) o j = sI σ o j := by
  induction n with
  | zero => rfl
  | succ n ih => exact ih
theorem cSlots_L (σ : Sg) (c n o j : Nat) : sL (cSlots σ c n) o j = if o = 13 ∧ c ≤ j ∧ j < c + n then pk 1 0 else sL σ o j := by
  induction n with
  | zero =>
    have : ¬ (o = 13 ∧ c ≤ j ∧ j < c + 0) := by omega
    rw [if_neg this]
    rfl
  | succ n ih =>
    show sL (wL (cSlots σ c n) 13 (c + n) (pk 1 0)) o j = _
    rw [sL_wL, ih]
    by_cases h1 : o = 13 ∧ j = c + n
    · rw [if_pos h1, if_pos (by omega)]
    · rw [if_neg h1]
      by_cases h2 : o = 13 ∧ c ≤ j ∧ j < c + n
      · rw [if_pos h2, if_pos (by omega)]
      · rw [if_neg h2, if_neg (by omega)]
def cOpen (σ : Sg) (m : Nat) : Sg := cSlots (wI σ 12 1 (nI (m + 1))) (8 * m) 8
theorem c_open {m : Nat} {Q : Int32 → Sg → Prop} (hm : sI σ 12 1 = nI m) (hm2 : m < 101) (k : Q (nI m) (cOpen σ m)) : wX3_open σ Q := by
  unfold wX3_open
  refine gT (ltN m 101 hm rfl hm2 (by decide)) ?_
  unfold wX3_open_18
  rw [hm, nI_1, show (8 : Int32) * nI m = nI (8 * m) from mulN 8 m rfl rfl]
  refine ⟨9, ?_⟩
  have hw : sI (wI σ 12 1 (nI (m + 1))) 12 1 = nI (m + 1) := i_e
  have loop : ∀ n q : Nat, q + n = 8 → wX3_open_31 (n + 1) (cSlots (wI σ 12 1 (nI (m + 1))) (8 * m) q) (nI m) (nI (8 * m + q)) Q := by
    intro n
    induction n with
    | zero =>
      intro q hq
      unfold wX3_open_31
      have : q = 8 := by omega
      subst this
      refine gF (nltN (8 * m + 8) (8 * (m + 1)) rfl ?_ (by omega) (by omega)) k
      rw [cSlots_I, hw]
      exact mulN 8 (m + 1) rfl rfl
    | succ n ih =>
      intro q hq
      unfold wX3_open_31
      refine gT (ltN (8 * m + q) (8 * (m + 1)) rfl ?_ (by omega) (by omega)) ?_
      · rw [cSlots_I, hw]
        exact mulN 8 (m + 1) rfl rfl
      · rw [nI_clamp (by omega), nI_1, pk_none]
        exact ⟨vp_in_nI (by omega) (by decide), ih (q + 1) (by omega)⟩
  exact loop 8 0 rfl
/-! Laters -/
theorem c_lhas {j m : Nat} {Q : Int32 → Sg → Prop} (hm : sI σ 14 6 = nI m) (hm2 : m ≤ 200) (hj : j < m) (k : Q 1 σ) : wX5_has σ (nI j) Q := by
  unfold wX5_has
  exact gF (nn0 j rfl (by omega)) (gT (ltN j m rfl hm hj (by omega)) k)
theorem c_lact {j m : Nat} {Q : Int32 → Sg → Prop} (hm : sI σ 14 6 = nI m) (hm2 : m ≤ 200) (hj : j < m) (k : Q (sI σ 15 j) σ) : wX5_actOf σ (nI j) Q := by
  unfold wX5_actOf
  refine c_lhas hm hm2 hj (gF ne10 ?_)
  rw [nI_clamp (by omega)]
  exact ⟨vp_in_nI (by omega) (by decide), k⟩
theorem c_lframe {j m : Nat} {Q : Int32 → Sg → Prop} (hm : sI σ 14 6 = nI m) (hm2 : m ≤ 200) (hj : j < m) (k : Q (sI σ 16 j) σ) : wX5_frameOf σ (nI j) Q := by
  unfold wX5_frameOf
  refine c_lhas hm hm2 hj (gF ne10 ?_)
  rw [nI_clamp (by omega)]
  exact ⟨vp_in_nI (by omega) (by decide), k⟩
theorem c_lstate {j m : Nat} {Q : Int32 → Sg → Prop} (hm : sI σ 14 6 = nI m) (hm2 : m ≤ 200) (hj : j < m) (k : Q (sI σ 17 j) σ) : wX5_stateOf σ (nI j) Q := by
  unfold wX5_stateOf
  refine c_lhas hm hm2 hj (gF ne10 ?_)
  rw [nI_clamp (by omega)]
  exact ⟨vp_in_nI (by omega) (by decide), k⟩
theorem c_lfailure {j m : Nat} {Q : Int32 → Sg → Prop} (hm : sI σ 14 6 = nI m) (hm2 : m ≤ 200) (hj : j < m) (k : Q (sI σ 18 j) σ) : wX5_failureOf σ (nI j) Q := by
  unfold wX5_failureOf
  refine c_lhas hm hm2 hj (gF ne10 ?_)
  rw [nI_clamp (by omega)]
  exact ⟨vp_in_nI (by omega) (by decide), k⟩
theorem c_lcode {j m : Nat} {Q : Int32 → Sg → Prop} (hm : sI σ 14 6 = nI m) (hm2 : m ≤ 200) (hj : j < m) (k : Q (sI σ 19 j) σ) : wX5_codeOf σ (nI j) Q := by
  unfold wX5_codeOf
  refine c_lhas hm hm2 hj (gF ne10 ?_)
  rw [nI_clamp (by omega)]
  exact ⟨vp_in_nI (by omega) (by decide), k⟩
theorem c_lvalue {j m : Nat} {Q : Int64 → Sg → Prop} (hm : sI σ 14 6 = nI m) (hm2 : m ≤ 200) (hj : j < m) (k : Q (sL σ 20 j) σ) : wX5_valueOf σ (nI j) Q := by
  unfold wX5_valueOf
  refine c_lhas hm hm2 hj (gF ne10 ?_)
  rw [nI_clamp (by omega)]
  exact ⟨vp_in_nI (by omega) (by decide), k⟩
theorem c_lset {j m : Nat} {x : Int32} {Q : Sg → Prop} (hm : sI σ 14 6 = nI m) (hm2 : m ≤ 200) (hj : j < m) (k : Q (wI σ 17 j x)) : wX5_setState σ (nI j) x Q := by
  unfold wX5_setState
  refine c_lhas hm hm2 hj (gF ne10 ?_)
  rw [nI_clamp (by omega)]
  exact ⟨vp_in_nI (by omega) (by decide), k⟩
theorem c_lfinish {j m : Nat} {v : Int64} {Q : Sg → Prop} (hm : sI σ 14 6 = nI m) (hm2 : m ≤ 200) (hj : j < m) (k : Q (wL (wI σ 17 j 2) 20 j v)) : wX5_finish σ (nI j) v Q := by
  unfold wX5_finish
  refine c_lhas hm hm2 hj (gF ne10 ?_)
  rw [nI_clamp (by omega)]
  exact ⟨vp_in_nI (by omega) (by decide), vp_in_nI (by omega) (by decide), k⟩
theorem c_lgiveUp {j m : Nat} {e c : Int32} {Q : Sg → Prop} (hm : sI σ 14 6 = nI m) (hm2 : m ≤ 200) (hj : j < m) (k : Q (wI (wI (wI σ 17 j 3) 18 j e) 19 j c)) : wX5_giveUp σ (nI j) e c Q := by
  unfold wX5_giveUp
  refine c_lhas hm hm2 hj (gF ne10 ?_)
  rw [nI_clamp (by omega)]
  exact ⟨vp_in_nI (by omega) (by decide), vp_in_nI (by omega) (by decide), vp_in_nI (by omega) (by decide), k⟩
def cLater (σ : Sg) (m : Nat) (a f : Int32) : Sg := wI (wI (wI (wI σ 14 6 (nI (m + 1))) 15 m a) 16 m f) 17 m 0
theorem c_ladd {m : Nat} {a f : Int32} {Q : Int64 → Sg → Prop} (hm : sI σ 14 6 = nI m) (hm2 : m < 200) (k : Q (pk 7 (nI m)) (cLater σ m a f)) : wX5_add σ a f Q := by
  unfold wX5_add
  refine gT (ltN m 200 hm rfl hm2 (by decide)) ?_
  rw [hm, nI_clamp (by omega), nI_1]
  have hv : vp_in (nI m) 200 := vp_in_nI hm2 (by decide)
  exact ⟨hv, hv, hv, c_of k⟩
/-! Machine: what its methods do by these -/
/-- the topmost entry gives v: to the one below, at its stage s, or as the run's value -/
theorem c_give0 {v : Int64} {Q : Sg → Prop} (h : sI σ 21 9 = nI 0) (k : Q (wL (cPop σ 0) 10 6 v)) : wX6_give σ v Q := by
  unfold wX6_give
  refine c_pop h (by decide) ?_
  unfold wX8_isEmpty
  refine gT ?_ (gF ne10 k)
  show sI (wI (wI σ 21 8 (nI 0)) 21 9 (nI (0 - 1))) 21 8 = 0
  rw [i_j (by decide), i_e]
  rfl
theorem c_give {t s : Nat} {v : Int64} {Q : Sg → Prop} (h : sI σ 21 9 = nI (t + 1)) (ht : t + 1 < 200) (hs : sI σ 24 t = nI s) (h3 : s < 3) (k : Q (cTake (cPop σ (t + 1)) t s v)) : wX6_give σ v Q := by
  unfold wX6_give
  refine c_pop h ht ?_
  unfold wX8_isEmpty
  have e8 : sI (cPop σ (t + 1)) 21 8 = nI (t + 1) := by
    unfold cPop
    rw [i_j (by decide), i_e]
  have e9 : sI (cPop σ (t + 1)) 21 9 = nI t := by
    unfold cPop
    rw [i_e]
    rfl
  have e24 : sI (cPop σ (t + 1)) 24 t = nI s := by
    unfold cPop
    rw [i_o (by decide), i_o (by decide)]
    exact hs
  refine gF (neN (t + 1) 0 e8 rfl (by omega) (by omega) (by decide)) (gT rfl ?_)
  exact c_take e9 (by omega) e24 h3 k
theorem c_fail {t f : Nat} {e c : Int32} {Q : Sg → Prop} (h : sI σ 21 9 = nI t) (ht : t < 200) (hf : sI σ 10 2 = nI f) (hf2 : f ≤ 20) (k : Q (cArise (cPop σ t) f e c (sI σ 22 t))) : wX6_fail σ e c Q := by
  unfold wX6_fail
  refine c_act h ht (c_pop h ht ?_)
  refine c_arise (f := f) ?_ hf2 k
  unfold cPop
  rw [i_o (by decide), i_o (by decide)]
  exact hf
theorem c_endRun {t : Nat} {e : Int32} {Q : Sg → Prop} (h : sI σ 21 9 = nI t) (ht : t < 200) (k : Q (cGo (cPop σ t) e 0 (sI σ 22 t))) : wX6_endRun σ e Q := by
  unfold wX6_endRun
  exact c_act h ht (c_pop h ht (c_end k))
/-- an act begins: a step and an entry, or the run is spent -/
theorem c_begin {s l n : Nat} {a f : Int32} {Q : Sg → Prop} (hs : sI σ 10 1 = nI s) (hl : sI σ 10 0 = nI l) (hb : l ≤ 200) (hsl : s ≤ l) (hn : sI σ 21 8 = nI n) (hns : n ≤ s) (k1 : s < l → Q (cPush (wI σ 10 1 (nI (s + 1))) n a f (sI σ 6 4))) (k0 : s = l → Q (cGo σ 9 0 a)) : wX6_begin σ a f Q := by
  unfold wX6_begin
  refine c_takesStep hs hl hb hsl (fun h => gF ne10 ?_) (fun h => gT rfl (k0 h))
  unfold wX7_changesSoFar
  refine c_push (n := n) ?_ (by omega) ?_
  · rw [i_o (by decide)]
    exact hn
  · rw [i_o (by decide)]
    exact k1 h
theorem c_beginPart {s l n t a na w : Nat} {wx : Int32} {Q : Sg → Prop} (hz : sI σ 1 3 = nI na) (hna : na ≤ 60) (ht9 : sI σ 21 9 = nI t) (ht : t < 200) (ha : sI σ 22 t = nI a) (han : a < na) (hw : wx = nI w) (h3 : w < 3) (hs : sI σ 10 1 = nI s) (hl : sI σ 10 0 = nI l) (hb : l ≤ 200) (hsl : s ≤ l) (hn : sI σ 21 8 = nI n) (hns : n ≤ s) (k1 : s < l → Q (cPush (wI σ 10 1 (nI (s + 1))) n (sI σ 3 (3 * a + w)) (sI σ 23 t) (sI σ 6 4))) (k0 : s = l → Q (cGo σ 9 0 (sI σ 3 (3 * a + w)))) : wX6_beginPart σ wx Q := by
  unfold wX6_beginPart
  refine c_act ht9 ht ?_
  rw [ha]
  refine c_part hz hna han hw h3 (c_frame ht9 ht ?_)
  exact c_begin hs hl hb hsl hn hns k1 k0
theorem c_put {c u g : Nat} {x : Int32} {v : Int64} {Q : Int64 → Sg → Prop} (hx : x = nI c) (hu : sI σ 6 3 = nI u) (hu2 : u ≤ 1708) (hc : c < u) (hg : sI σ 6 4 = nI g) (hg2 : g < 1700) (k : Q v (cWrite σ g c v)) : wX6_put σ x v Q := by
  unfold wX6_put
  exact c_write hx hu hu2 hc hg hg2 k
def cTell (σ : Sg) (o : Nat) (x : Int32) : Sg := if o < 40 then wI (wI σ 11 o x) 5 4 (nI (o + 1)) else σ
theorem c_tell {o : Nat} {v : Int64} {Q : Int64 → Sg → Prop} (ho : sI σ 5 4 = nI o) (ho2 : o ≤ 40) (k : Q v (cTell σ o (nbr v))) : wX6_tell σ v Q := by
  unfold wX6_tell
  unfold cTell at k
  by_cases h : o < 40
  · rw [if_pos h] at k
    refine gT (ltN o 40 ho rfl h (by decide)) (c_number ?_)
    rw [ho, nI_clamp (by omega), nI_1]
    exact ⟨vp_in_nI h (by decide), k⟩
  · rw [if_neg h] at k
    exact gF (nltN o 40 ho rfl (by omega) (by omega)) k
end CO
