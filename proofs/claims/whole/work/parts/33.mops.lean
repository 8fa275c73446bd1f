section MO
variable {μ : Sg} {K : Sg → Prop}
def mVal (μ : Sg) (t n : Int32) : Sg := wI (wI (wI μ 0 36 1) 0 39 t) 0 40 n
theorem m_value {t n : Int32} (k : K (mVal μ t n)) : wX11_value μ t n K := k
def mStart (μ : Sg) (a f : Int32) : Sg := wI (wI (wI μ 0 36 0) 0 37 a) 0 38 f
theorem m_start {a f : Int32} (k : K (mStart μ a f)) : wX11_start μ a f K := k
/-- mode m (2: it fails, 3: the run ends) -/
def mGo (μ : Sg) (m e c a : Int32) : Sg := wI (wI (wI (wI μ 0 36 m) 0 41 e) 0 42 c) 0 43 a
theorem m_finish {e a : Int32} (k : K (mGo μ 3 e 0 a)) : wX11_finish μ e a K := k
def mFail (μ : Sg) (f : Nat) (e c a : Int32) : Sg := if 20 < f + 1 then mGo (wI μ 0 44 (nI (f + 1))) 3 10 0 a else mGo (wI μ 0 44 (nI (f + 1))) 2 e c a
theorem m_fail {f : Nat} {e c a : Int32} (h : sI μ 0 44 = nI f) (hf : f ≤ 20) (k : K (mFail μ f e c a)) : wX11_fail μ e c a K := by
  unfold wX11_fail
  rw [h, nI_1]
  unfold mFail at k
  by_cases h2 : 20 < f + 1
  · rw [if_pos h2] at k
    exact gT (ltN 20 (f + 1) rfl rfl h2 (by omega)) (m_finish k)
  · rw [if_neg h2] at k
    exact gF (nltN 20 (f + 1) rfl rfl (by omega) (by decide)) k
theorem m_failBy {f : Nat} {e a : Int32} (h : sI μ 0 44 = nI f) (hf : f ≤ 20) (k : K (mFail μ f e e a)) : wX11_failBy μ e a K := m_fail h hf k
/-- 0, 1 (nothing), 4: what a type that should be a whole brings about -/
def ft (t : Int32) : Int32 := if t = 0 then 0 else if t = 1 then 1 else 4
theorem m_isWhole {t a : Int32} {f : Nat} {Q : Int32 → Sg → Prop} (h : sI μ 0 44 = nI f) (hf : f ≤ 20) (k1 : t = 0 → Q 1 μ) (k0 : ¬ t = 0 → Q 0 (mFail μ f (ft t) (ft t) a)) : wX11_isWhole μ t a Q := by
  unfold wX11_isWhole wX11_isWhole_16
  refine ⟨k1, fun h0 => ?_⟩
  have k := k0 h0
  unfold ft at k
  rw [if_neg h0] at k
  by_cases h1 : t = 1
  · rw [if_pos h1] at k
    exact gT h1 (m_fail h hf k)
  · rw [if_neg h1] at k
    exact gF h1 (m_fail h hf k)
theorem m_in {x : Int32} {lo hi : Int32} {Q : Int32 → Sg → Prop} (k1 : ¬ x < lo → ¬ hi < x → Q 1 μ) (k0 : x < lo ∨ hi < x → Q 0 μ) : wX11_in μ x lo hi Q := by
  unfold wX11_in
  exact ⟨fun h => k0 (Or.inl h), fun h => ⟨fun h2 => k0 (Or.inr h2), fun h2 => k1 h h2⟩⟩
/-- whether j is within a row of n: as the model asks -/
theorem in_sub {x : Int32} {n : Nat} (hn : n < 1000) : (¬ x < 0 ∧ ¬ (nI n - 1) < x) ↔ ∃ j, j < n ∧ x = nI j := by
  constructor
  · intro ⟨h1, h2⟩
    rcases Nat.eq_zero_or_pos n with h0 | h0
    · subst h0
      have : (nI 0 - 1 : Int32) < x := by
        obtain ⟨j, hj, rfl⟩ := nI_of h1
        rw [Int32.lt_iff_toInt_lt, nI_toInt hj]
        have : (nI 0 - 1 : Int32).toInt = -1 := by decide
        omega
      exact absurd this h2
    · obtain ⟨j, hj, rfl⟩ := nI_of h1
      refine ⟨j, ?_, rfl⟩
      rcases Nat.lt_or_ge j n with q | q
      · exact q
      · exact absurd (ltN (n - 1) j (subN n 1 rfl rfl h0) rfl (by omega) hj) h2
  · rintro ⟨j, hj, rfl⟩
    refine ⟨nn0 j rfl (by omega), nltN (n - 1) j (subN n 1 rfl rfl (by omega)) rfl (by omega) (by omega)⟩
theorem in_or {x lo hi : Int32} (h : ¬ (¬ x < lo ∧ ¬ hi < x)) : x < lo ∨ hi < x := by
  by_cases h1 : x < lo
  · exact Or.inl h1
  · by_cases h2 : hi < x
    · exact Or.inr h2
    · exact absurd ⟨h1, h2⟩ h
theorem m_noAct {x : Int32} {na : Nat} {Q : Int32 → Sg → Prop} (hz : sI μ 0 0 = nI na) (hna : na ≤ 60) (k0 : ∀ a, a < na → x = nI a → Q 0 μ) (k1 : (¬ ∃ a, a < na ∧ x = nI a) → Q 1 μ) : wX11_noAct μ x Q := by
  unfold wX11_noAct
  rw [hz]
  refine m_in (fun h1 h2 => gF ne10 ?_) (fun h => gT rfl (k1 fun q => ?_))
  · obtain ⟨a, ha, hx⟩ := (in_sub (n := na) (by omega)).mp ⟨h1, h2⟩
    exact k0 a ha hx
  · have := (in_sub (n := na) (by omega)).mpr q
    rcases h with h | h
    · exact this.1 h
    · exact this.2 h
theorem m_isRow {t : Int32} {Q : Int32 → Sg → Prop} (k1 : isRw t → Q 1 μ) (k0 : ¬ isRw t → Q 0 μ) : wX11_isRow μ t Q := by
  unfold wX11_isRow
  have key : (¬ t < 2 ∧ ¬ (4 : Int32) < t) ↔ isRw t := by
    constructor
    · intro ⟨h1, h2⟩
      have a1 : (2 : Int32).toInt ≤ t.toInt := Int.not_lt.mp (fun q => h1 (Int32.lt_iff_toInt_lt.mpr q))
      have a2 : t.toInt ≤ (4 : Int32).toInt := Int.not_lt.mp (fun q => h2 (Int32.lt_iff_toInt_lt.mpr q))
      have b1 : (2 : Int32).toInt = 2 := by decide
      have b2 : (4 : Int32).toInt = 4 := by decide
      rw [b1] at a1; rw [b2] at a2
      have : t.toInt = 2 ∨ t.toInt = 3 ∨ t.toInt = 4 := by omega
      rcases this with q | q | q
      · exact Or.inl (Int32.toInt_inj.mp (q.trans (by decide)))
      · exact Or.inr (Or.inl (Int32.toInt_inj.mp (q.trans (by decide))))
      · exact Or.inr (Or.inr (Int32.toInt_inj.mp (q.trans (by decide))))
    · rintro (rfl | rfl | rfl) <;> decide
  refine m_in (fun h1 h2 => ⟨bz_1, k1 (key.mp ⟨h1, h2⟩)⟩) (fun h => ⟨bz_0, k0 fun q => ?_⟩)
  have := key.mpr q
  rcases h with h | h
  · exact this.1 h
  · exact this.2 h
/-- 1 (nothing) or 4: a thing of another sort -/
def ff (t : Int32) : Int32 := if t = 1 then 1 else 4
theorem m_isRowHere {t a : Int32} {f : Nat} {Q : Int32 → Sg → Prop} (h : sI μ 0 44 = nI f) (hf : f ≤ 20) (k1 : isRw t → Q 1 μ) (k0 : ¬ isRw t → Q 0 (mFail μ f (ff t) (ff t) a)) : wX11_isRowHere μ t a Q := by
  unfold wX11_isRowHere wX11_isRowHere_18 wX11_isRowHere_22
  refine m_isRow (fun hr => gF ne10 (m_isRow (fun _ => ⟨bz_1, k1 hr⟩) (fun q => absurd hr q))) (fun hr => gT rfl ?_)
  have k := k0 hr
  unfold ff at k
  by_cases h1 : t = 1
  · rw [if_pos h1] at k
    exact gT h1 (m_failBy h hf (m_isRow (fun q => absurd q hr) (fun _ => ⟨bz_0, k⟩)))
  · rw [if_neg h1] at k
    exact gF h1 (m_failBy h hf (m_isRow (fun q => absurd q hr) (fun _ => ⟨bz_0, k⟩)))
theorem m_isLink {t a : Int32} {f : Nat} {Q : Int32 → Sg → Prop} (h : sI μ 0 44 = nI f) (hf : f ≤ 20) (k1 : isLk t → Q 1 μ) (k0 : ¬ isLk t → Q 0 (mFail μ f (ff t) (ff t) a)) : wX11_isLink μ t a Q := by
  unfold wX11_isLink wX11_isLink_11 wX11_isLink_16 wX11_isLink_32
  refine ⟨fun q => gF ne10 ⟨bz_1, k1 (Or.inl q)⟩, fun q1 => ⟨fun q => gF ne10 ⟨bz_1, k1 (Or.inr q)⟩, fun q2 => gT rfl ?_⟩⟩
  have k := k0 (fun q => q.elim q1 q2)
  unfold ff at k
  by_cases h1 : t = 1
  · rw [if_pos h1] at k
    exact gT h1 (m_failBy h hf ⟨bz_0, k⟩)
  · rw [if_neg h1] at k
    exact gF h1 (m_failBy h hf ⟨bz_0, k⟩)
/-! rows of the model filled from a place on -/
def mFill (μ : Sg) (oT oN c : Nat) : Nat → Sg
  | 0 => μ
  | n + 1 => wI (wI (mFill μ oT oN c n) oT (c + n) 1) oN (c + n) 0
theorem mFill_I (μ : Sg) (oT oN c n o j : Nat) (ho : oT ≠ oN) : sI (mFill μ oT oN c n) o j = if o = oN ∧ c ≤ j ∧ j < c + n then 0 else if o = oT ∧ c ≤ j ∧ j < c + n then 1 else sI μ o j := by
  induction n with
  | zero =>
    rw [if_neg (by omega), if_neg (by omega)]
    rfl
  | succ n ih =>
    show sI (wI (wI (mFill μ oT oN c n) oT (c + n) 1) oN (c + n) 0) o j = _
    rw [sI_wI, sI_wI, ih]
    by_cases h1 : o = oN ∧ j = c + n
    · rw [if_pos h1, if_pos (by omega)]
    · rw [if_neg h1]
      by_cases h2 : o = oT ∧ j = c + n
      · rw [if_pos h2, if_neg (by omega), if_pos (by omega)]
      · rw [if_neg h2]
        by_cases h3 : o = oN ∧ c ≤ j ∧ j < c + n
        · rw [if_pos h3, if_pos (by omega)]
        · rw [if_neg h3]
          by_cases h4 : o = oT ∧ c ≤ j ∧ j < c + n
          · rw [if_pos h4, if_neg (by omega), if_pos (by omega)]
          · rw [if_neg h4, if_neg (by omega), if_neg (by omega)]
theorem mFill_L (μ : Sg) (oT oN c n o j : Nat) : sL (mFill μ oT oN c n) o j = sL μ o j := by
  induction n with
  | zero => rfl
  | succ n ih => exact ih
/-- a new thing of size z -/
def mThing (μ : Sg) (k : Nat) (z : Int32) : Sg := mFill (wI (wI μ 0 6 (nI (k + 1))) 5 k z) 6 7 (16 * k) 16
theorem m_newThing {k : Nat} {z : Int32} {Q : Int32 → Sg → Prop} (h : sI μ 0 6 = nI k) (hk : k < 220) (q : Q (nI k) (mThing μ k z)) : wX11_newThing μ z Q := by
  unfold wX11_newThing
  rw [h, nI_1, nI_clamp (by omega)]
  refine ⟨vp_in_nI hk (by decide), 17, ?_⟩
  have loop : ∀ n m : Nat, m + n = 16 → wX11_newThing_24 (n + 1) (mFill (wI (wI μ 0 6 (nI (k + 1))) 5 k z) 6 7 (16 * k) m) (nI k) (nI m) Q := by
    intro n
    induction n with
    | zero =>
      intro m hm
      unfold wX11_newThing_24
      have : m = 16 := by omega
      subst this
      exact gF (nltN 16 16 rfl rfl (by omega) (by decide)) q
    | succ n ih =>
      intro m hm
      unfold wX11_newThing_24
      refine gT (ltN m 16 rfl rfl (by omega) (by decide)) ?_
      have e : ((16 : Int32) * nI k) + nI m = nI (16 * k + m) := addN (16 * k) m (mulN 16 k rfl rfl) rfl
      rw [e, nI_clamp (by omega), nI_1]
      exact ⟨vp_in_nI (by omega) (by decide), vp_in_nI (by omega) (by decide), ih (m + 1) (by omega)⟩
  exact loop 16 0 rfl
def mFrame (μ : Sg) (f : Nat) : Sg := mFill (wI μ 0 15 (nI (f + 1))) 13 14 (8 * f) 8
theorem m_newFrame {f : Nat} {Q : Int32 → Sg → Prop} (h : sI μ 0 15 = nI f) (hf : f < 220) (q : Q (nI f) (mFrame μ f)) : wX11_newFrame μ Q := by
  unfold wX11_newFrame
  rw [h, nI_1]
  refine ⟨9, ?_⟩
  have loop : ∀ n m : Nat, m + n = 8 → wX11_newFrame_17 (n + 1) (mFill (wI μ 0 15 (nI (f + 1))) 13 14 (8 * f) m) (nI f) (nI m) Q := by
    intro n
    induction n with
    | zero =>
      intro m hm
      unfold wX11_newFrame_17
      have : m = 8 := by omega
      subst this
      exact gF (nltN 8 8 rfl rfl (by omega) (by decide)) q
    | succ n ih =>
      intro m hm
      unfold wX11_newFrame_17
      refine gT (ltN m 8 rfl rfl (by omega) (by decide)) ?_
      have e : ((8 : Int32) * nI f) + nI m = nI (8 * f + m) := addN (8 * f) m (mulN 8 f rfl rfl) rfl
      rw [e, nI_clamp (by omega), nI_1]
      exact ⟨vp_in_nI (by omega) (by decide), vp_in_nI (by omega) (by decide), ih (m + 1) (by omega)⟩
  exact loop 8 0 rfl
/-! the model's memory by one number w: a box (below 8), or the place w - 8 -/
def mT (μ : Sg) (w : Nat) : Int32 := if w < 8 then sI μ 15 w else sI μ 6 (w - 8)
def mN (μ : Sg) (w : Nat) : Int32 := if w < 8 then sI μ 16 w else sI μ 7 (w - 8)
def mSet (μ : Sg) (w : Nat) (t n : Int32) : Sg := if w < 8 then wI (wI μ 15 w t) 16 w n else wI (wI μ 6 (w - 8) t) 7 (w - 8) n
def mLog (μ : Sg) (g w : Nat) : Sg := wI (wI (wI μ 17 g (nI w)) 18 g (mT μ w)) 19 g (mN μ w)
def mWrite (μ : Sg) (g w : Nat) (t n : Int32) : Sg := wI (mSet (mLog μ g w) w t n) 0 20 (nI (g + 1))
theorem m_bump {g : Nat} (z : Sg) (hz : sI z 0 20 = nI g) (k : K (wI z 0 20 (nI (g + 1)))) : wX11_write_119 z K := by
  unfold wX11_write_119
  rw [hz, nI_1]
  exact k
theorem m_write {g w : Nat} {x t n : Int32} (hx : x = nI w) (hw : w < 3528) (hg : sI μ 0 20 = nI g) (hg2 : g < 3600) (k : K (mWrite μ g w t n)) : wX11_write μ x t n K := by
  subst hx
  unfold wX11_write
  have hv : vp_in (nI g) 3600 := vp_in_nI hg2 (by decide)
  rw [hg, nI_clamp (by omega)]
  refine ⟨hv, ?_⟩
  unfold mWrite mSet mLog mT mN at k
  by_cases h8 : w < 8
  · simp only [if_pos h8] at k
    refine gT (ltN w 8 rfl rfl h8 (by decide)) ?_
    have hb : vp_in (nI w) 8 := vp_in_nI h8 (by decide)
    rw [nI_clamp (by omega)]
    exact ⟨hb, hv, hb, hv, hb, hb, m_bump _ hg k⟩
  · simp only [if_neg h8] at k
    refine gF (nltN w 8 rfl rfl (by omega) (by omega)) ?_
    rw [show nI w - (8 : Int32) = nI (w - 8) from subN w 8 rfl rfl (by omega), nI_clamp (by omega)]
    have hb : vp_in (nI (w - 8)) 3520 := vp_in_nI (by omega) (by decide)
    exact ⟨hb, hv, hb, hv, hb, hb, m_bump _ hg k⟩
end MO
