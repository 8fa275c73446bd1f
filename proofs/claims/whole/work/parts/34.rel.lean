/-! A value of the class (a long) and of the model (a type, a number). Things are numbered as the model makes them: so k is the sort of thing k, dl k the class's number of it (its cell, or its place among the laters), ln k how many places it has. -/
def V (so dl : Nat → Nat) (th : Nat) (v : Int64) (t n : Int32) : Prop :=
  (t = 0 ∧ v = pk 0 n) ∨ (t = 1 ∧ n = 0 ∧ v = pk 1 0) ∨ ∃ k, k < th ∧ 2 ≤ so k ∧ so k ≤ 7 ∧ t = nI (so k) ∧ n = nI k ∧ v = pk (nI (so k)) (nI (dl k))
section VR
variable {so dl ln so' dl' ln' : Nat → Nat} {th th' : Nat} {v v' : Int64} {t n t' n' : Int32}
theorem V.w (n : Int32) : V so dl th (pk 0 n) 0 n := Or.inl ⟨rfl, rfl⟩
theorem V.no : V so dl th (pk 1 0) 1 0 := Or.inr (Or.inl ⟨rfl, rfl, rfl⟩)
theorem V.srt (h : V so dl th v t n) : srt v = t := by
  rcases h with ⟨rfl, rfl⟩ | ⟨rfl, -, rfl⟩ | ⟨k, -, -, -, rfl, -, rfl⟩ <;> exact srt_pk _ _
theorem V.whole (h : V so dl th v t n) (h0 : t = 0) : v = pk 0 n := by
  rcases h with ⟨-, h⟩ | ⟨h, -⟩ | ⟨k, -, h2, h7, h, -⟩
  · exact h
  · rw [h0] at h; exact absurd h (by decide)
  · rw [h0] at h
    exact absurd h (neN 0 (so k) rfl rfl (by omega) (by decide) (by omega))
theorem V.num (h : V so dl th v t n) (h0 : t = 0) : nbr v = n := by rw [h.whole h0, nbr_pk]
theorem V.none_iff (h : V so dl th v t n) : v = pk 1 0 ↔ t = 1 := by
  constructor
  · intro e
    rw [← h.srt, e, srt_pk]
  · intro e
    rcases h with ⟨h, -⟩ | ⟨-, -, h⟩ | ⟨k, -, h2, h7, h, -⟩
    · rw [e] at h; exact absurd h (by decide)
    · exact h
    · rw [e] at h
      exact absurd h (neN 1 (so k) rfl rfl (by omega) (by decide) (by omega))
theorem V.mono (h : V so dl th v t n) (hth : th ≤ th') (hs : ∀ k, k < th → so' k = so k) (hd : ∀ k, k < th → dl' k = dl k) : V so' dl' th' v t n := by
  rcases h with h | h | ⟨k, h1, h2, h3, h4, h5, h6⟩
  · exact Or.inl h
  · exact Or.inr (Or.inl h)
  · exact Or.inr (Or.inr ⟨k, by omega, by rw [hs k h1]; exact h2, by rw [hs k h1]; exact h3, by rw [hs k h1]; exact h4, h5, by rw [hs k h1, hd k h1]; exact h6⟩)
theorem V.thing (h : V so dl th v t n) (h0 : ¬ t = 0) (h1 : ¬ t = 1) : ∃ k, k < th ∧ 2 ≤ so k ∧ so k ≤ 7 ∧ t = nI (so k) ∧ n = nI k ∧ nbr v = nI (dl k) ∧ v = pk (nI (so k)) (nI (dl k)) := by
  rcases h with ⟨h, -⟩ | ⟨h, -⟩ | ⟨k, a1, a2, a3, a4, a5, a6⟩
  · exact absurd h h0
  · exact absurd h h1
  · exact ⟨k, a1, a2, a3, a4, a5, by rw [a6, nbr_pk], a6⟩
theorem V.fwt (h : V so dl th v t n) : fw v = ft t := by
  unfold fw ft
  rw [h.srt]
  by_cases h0 : t = 0
  · rw [if_pos h0, if_pos h0]
  · rw [if_neg h0, if_neg h0]
    by_cases h1 : t = 1
    · rw [if_pos h1, if_pos (h.none_iff.mpr h1)]
    · rw [if_neg h1, if_neg (fun q => h1 (h.none_iff.mp q))]
/-- a sort told by a type -/
theorem V.sort_of {k j : Nat} (h : nI j = nI (so k)) (hj : j < 100) (h7 : so k ≤ 7) : so k = j := (eqN h (by omega) (by omega)).symm
theorem V.eq (hi : ∀ k k', k < th → k' < th → so k = so k' → dl k = dl k' → k = k') (hdl : ∀ k, k < th → dl k < 10000) (hth : th ≤ 10000) (h : V so dl th v t n) (h' : V so dl th v' t' n') : v = v' ↔ t = t' ∧ (t = 1 ∨ n = n') := by
  constructor
  · intro e
    have et : t = t' := by rw [← h.srt, e, h'.srt]
    refine ⟨et, ?_⟩
    by_cases h1 : t = 1
    · exact Or.inl h1
    · right
      by_cases h0 : t = 0
      · rw [← h.num h0, e, h'.num (et ▸ h0)]
      · obtain ⟨k, a1, a2, a3, a4, a5, a6, a7⟩ := h.thing h0 h1
        obtain ⟨k', b1, b2, b3, b4, b5, b6, b7⟩ := h'.thing (fun q => h0 (et.trans q)) (fun q => h1 (et.trans q))
        have es : so k = so k' := eqN (a4.symm.trans (et.trans b4)) (by omega) (by omega)
        have ed : dl k = dl k' := eqN (a6.symm.trans ((congrArg nbr e).trans b6)) (by have := hdl k a1; omega) (by have := hdl k' b1; omega)
        rw [a5, b5, hi k k' a1 b1 es ed]
  · rintro ⟨et, h1⟩
    by_cases hn : t = 1
    · rw [h.none_iff.mpr hn, h'.none_iff.mpr (et ▸ hn)]
    · have en : n = n' := h1.resolve_left hn
      by_cases h0 : t = 0
      · rw [h.whole h0, h'.whole (et ▸ h0), en]
      · obtain ⟨k, a1, a2, a3, a4, a5, a6, a7⟩ := h.thing h0 hn
        obtain ⟨k', b1, b2, b3, b4, b5, b6, b7⟩ := h'.thing (fun q => h0 (et.trans q)) (fun q => hn (et.trans q))
        have ek : k = k' := eqN (a5.symm.trans (en.trans b5)) (by omega) (by omega)
        rw [a7, b7, ek]
/-! places: w below 8 is a box, else the place w - 8 of the model -/
def cad (so dl : Nat → Nat) (w : Nat) : Nat := if w < 8 then w else if so ((w - 8) / 16) ≤ 4 then dl ((w - 8) / 16) + 1 + (w - 8) % 16 else dl ((w - 8) / 16)
def vld (so ln : Nat → Nat) (th w : Nat) : Prop := w < 8 ∨ (8 ≤ w ∧ (w - 8) / 16 < th ∧ ((so ((w - 8) / 16) ≤ 4 ∧ (w - 8) % 16 < ln ((w - 8) / 16)) ∨ (5 ≤ so ((w - 8) / 16) ∧ so ((w - 8) / 16) ≤ 6 ∧ (w - 8) % 16 = 0)))
def typ (so : Nat → Nat) (w : Nat) (t : Int32) : Prop := 8 ≤ w → (so ((w - 8) / 16) = 2 → t = 0) ∧ (so ((w - 8) / 16) = 3 → t = 1 ∨ t = 5 ∨ t = 6) ∧ (so ((w - 8) / 16) = 4 → t = 1 ∨ t = 6)
/-- the things and their cells; us cells are used, lm laters made -/
def Th (so dl ln : Nat → Nat) (th us lm : Nat) (sz : Nat → Int32) (cells : Nat → Int64) : Prop :=
  (∀ k, k < th → 2 ≤ so k ∧ so k ≤ 7 ∧ (so k ≤ 4 → sz k = nI (ln k) ∧ ln k ≤ 16 ∧ 8 ≤ dl k ∧ dl k + 1 + ln k ≤ us ∧ cells (dl k) = pk 0 (nI (ln k))) ∧ (5 ≤ so k → so k ≤ 6 → 8 ≤ dl k ∧ dl k < us ∧ ln k = 0) ∧ (so k = 7 → dl k < lm)) ∧
  (∀ k k', k < k' → k' < th → so k ≤ 6 → so k' ≤ 6 → dl k + 1 + ln k ≤ dl k') ∧
  (∀ k k', k < k' → k' < th → so k = 7 → so k' = 7 → dl k < dl k')
def Mm (so dl ln : Nat → Nat) (th : Nat) (cells : Nat → Int64) (mt mn : Nat → Int32) : Prop := ∀ w, vld so ln th w → V so dl th (cells (cad so dl w)) (mt w) (mn w) ∧ typ so w (mt w)
theorem Th.inj {us lm : Nat} {sz : Nat → Int32} {cells : Nat → Int64} (h : Th so dl ln th us lm sz cells) : ∀ k k', k < th → k' < th → so k = so k' → dl k = dl k' → k = k' := by
  have key : ∀ k k', k < k' → k' < th → so k = so k' → dl k = dl k' → False := by
    intro k k' hk hk' hs hd
    obtain ⟨-, a7, -⟩ := h.1 k (by omega)
    by_cases h7 : so k = 7
    · have := h.2.2 k k' hk hk' h7 (hs ▸ h7)
      omega
    · have := h.2.1 k k' hk hk' (by omega) (by omega)
      omega
  intro k k' hk hk' hs hd
  rcases Nat.lt_trichotomy k k' with q | q | q
  · exact (key k k' q hk' hs hd).elim
  · exact q
  · exact (key k' k q hk hs.symm hd.symm).elim
theorem cad_lt {us lm : Nat} {sz : Nat → Int32} {cells : Nat → Int64} (h : Th so dl ln th us lm sz cells) (h8 : 8 ≤ us) {w : Nat} (hw : vld so ln th w) : cad so dl w < us := by
  unfold cad
  rcases hw with hw | ⟨h1, h2, h3⟩
  · rw [if_pos hw]; omega
  · rw [if_neg (by omega)]
    obtain ⟨-, -, a, b, -⟩ := h.1 _ h2
    rcases h3 with ⟨h3, h4⟩ | ⟨h3, h4, -⟩
    · rw [if_pos h3]
      have := a h3
      omega
    · rw [if_neg (by omega)]
      have := b h3 h4
      omega
theorem cad_hdr {us lm : Nat} {sz : Nat → Int32} {cells : Nat → Int64} (h : Th so dl ln th us lm sz cells) {w k : Nat} (hw : vld so ln th w) (hk : k < th) (h4 : so k ≤ 4) : cad so dl w ≠ dl k := by
  unfold cad
  obtain ⟨-, -, a, -⟩ := h.1 k hk
  have a8 := a h4
  rcases hw with hw | ⟨h1, h2, h3⟩
  · rw [if_pos hw]; omega
  · rw [if_neg (by omega)]
    obtain ⟨-, -, b, c, -⟩ := h.1 _ h2
    rcases h3 with ⟨h3, h5⟩ | ⟨h3, h5, -⟩
    · rw [if_pos h3]
      have b8 := b h3
      rcases Nat.lt_trichotomy k ((w - 8) / 16) with q | q | q
      · have := h.2.1 _ _ q h2 (by omega) (by omega)
        omega
      · rw [← q]; omega
      · have := h.2.1 _ _ q hk (by omega) (by omega)
        omega
    · rw [if_neg (by omega)]
      have c8 := c h3 h5
      rcases Nat.lt_trichotomy k ((w - 8) / 16) with q | q | q
      · have := h.2.1 _ _ q h2 (by omega) (by omega)
        omega
      · rw [q] at h4; omega
      · have := h.2.1 _ _ q hk (by omega) (by omega)
        omega
theorem cad_inj {us lm : Nat} {sz : Nat → Int32} {cells : Nat → Int64} (h : Th so dl ln th us lm sz cells) {w w' : Nat} (hw : vld so ln th w) (hw' : vld so ln th w') (e : cad so dl w = cad so dl w') : w = w' := by
  have lo : ∀ w, vld so ln th w → ¬ w < 8 → 8 ≤ cad so dl w := by
    intro w hw h8
    unfold cad
    rcases hw with hw | ⟨h1, h2, h3⟩
    · omega
    · rw [if_neg h8]
      obtain ⟨-, -, a, b, -⟩ := h.1 _ h2
      rcases h3 with ⟨h3, -⟩ | ⟨h3, h4, -⟩
      · rw [if_pos h3]; have := a h3; omega
      · rw [if_neg (by omega)]; have := b h3 h4; omega
  by_cases c1 : w < 8
  · by_cases c2 : w' < 8
    · unfold cad at e
      rwa [if_pos c1, if_pos c2] at e
    · have := lo w' hw' c2
      unfold cad at e this
      rw [if_pos c1] at e
      omega
  · by_cases c2 : w' < 8
    · have := lo w hw c1
      rw [e] at this
      unfold cad at this
      rw [if_pos c2] at this
      omega
    · rcases hw with hw | ⟨h1, h2, h3⟩
      · omega
      rcases hw' with hw' | ⟨g1, g2, g3⟩
      · omega
      -- the same thing, else apart by order
      have sp : ∀ w, ¬ w < 8 → (w - 8) / 16 < th → ((so ((w - 8) / 16) ≤ 4 ∧ (w - 8) % 16 < ln ((w - 8) / 16)) ∨ (5 ≤ so ((w - 8) / 16) ∧ so ((w - 8) / 16) ≤ 6 ∧ (w - 8) % 16 = 0)) → dl ((w - 8) / 16) ≤ cad so dl w ∧ cad so dl w < dl ((w - 8) / 16) + 1 + ln ((w - 8) / 16) ∧ so ((w - 8) / 16) ≤ 6 := by
        intro w c h2 h3
        unfold cad
        rw [if_neg c]
        obtain ⟨-, -, a, b, -⟩ := h.1 _ h2
        rcases h3 with ⟨h3, h4⟩ | ⟨h3, h4, h5⟩
        · rw [if_pos h3]; omega
        · rw [if_neg (by omega)]
          have := b h3 h4
          omega
      have s1 := sp w c1 h2 h3
      have s2 := sp w' c2 g2 g3
      have ek : (w - 8) / 16 = (w' - 8) / 16 := by
        rcases Nat.lt_trichotomy ((w - 8) / 16) ((w' - 8) / 16) with q | q | q
        · have := h.2.1 _ _ q g2 s1.2.2 s2.2.2
          omega
        · exact q
        · have := h.2.1 _ _ q h2 s2.2.2 s1.2.2
          omega
      have ei : (w - 8) % 16 = (w' - 8) % 16 := by
        unfold cad at e
        rw [if_neg c1, if_neg c2, ek] at e
        rw [ek] at h3
        rcases h3 with ⟨h3, h4⟩ | ⟨h3, h4, h5⟩
        · rw [if_pos h3, if_pos h3] at e
          omega
        · rcases g3 with ⟨g3, -⟩ | ⟨-, -, g5⟩
          · omega
          · omega
      omega
/-- the log of changes -/
def Lg (so dl ln : Nat → Nat) (th ch : Nat) (cc : Nat → Int32) (cf : Nat → Int64) (wh wt wn : Nat → Int32) : Prop := ∀ j, j < ch → ∃ w, vld so ln th w ∧ cc j = nI (cad so dl w) ∧ wh j = nI w ∧ V so dl th (cf j) (wt j) (wn j) ∧ typ so w (wt j)
/-- the slots -/
def Sl (so dl : Nat → Nat) (th mk : Nat) (sl : Nat → Int64) (st sn : Nat → Int32) : Prop := ∀ j, j < 8 * mk → V so dl th (sl j) (st j) (sn j)
/-- the laters -/
def Lt (so dl : Nat → Nat) (th mk na : Nat) (la lf ls lx lc : Nat → Int32) (lv : Nat → Int64) (ma mf ms mt mn : Nat → Int32) : Prop := ∀ k, k < th → so k = 7 →
  la (dl k) = ma k ∧ lf (dl k) = mf k ∧ ls (dl k) = ms k ∧ (∃ a, a < na ∧ ma k = nI a) ∧ (∃ f, f < mk ∧ mf k = nI f) ∧ (ms k = 0 ∨ ms k = 1 ∨ (ms k = 2 ∧ V so dl th (lv (dl k)) (mt k) (mn k)) ∨ (ms k = 3 ∧ lx (dl k) = mt k ∧ lc (dl k) = mn k ∧ ∃ e, 1 ≤ e ∧ e ≤ 8 ∧ mt k = nI e))
end VR
