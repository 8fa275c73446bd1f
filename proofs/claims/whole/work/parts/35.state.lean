/-! what the kinds have: acts ahead of the work, acts at all, where they stand; stages in which an act waits -/
def ahd (k : Nat) : Nat := ([0, 0, 0, 2, 1, 2, 2, 2, 2, 2, 1, 1, 1, 1, 1, 2, 3, 1, 2, 3, 1, 1, 1, 1, 1, 1, 1, 0, 1, 1, 0, 1] : List Nat).getD k 0
def nps (k : Nat) : Nat := ([0, 0, 0, 2, 2, 2, 2, 2, 2, 2, 1, 1, 1, 1, 1, 2, 3, 1, 2, 3, 1, 2, 2, 3, 2, 1, 1, 1, 1, 1, 0, 1] : List Nat).getD k 0
def ps0 (k : Nat) : Nat := ([9, 9, 9, 0, 0, 0, 0, 0, 0, 0, 0, 0, 0, 0, 0, 0, 0, 0, 0, 0, 0, 0, 0, 0, 0, 1, 0, 0, 0, 0, 9, 1] : List Nat).getD k 9
def ps1 (k : Nat) : Nat := ([9, 9, 9, 1, 2, 1, 1, 1, 1, 1, 9, 9, 9, 9, 9, 1, 1, 9, 1, 1, 9, 2, 1, 1, 1, 9, 9, 9, 9, 9, 9, 9] : List Nat).getD k 9
def ps2 (k : Nat) : Nat := ([9, 9, 9, 9, 9, 9, 9, 9, 9, 9, 9, 9, 9, 9, 9, 9, 2, 9, 9, 2, 9, 9, 9, 2, 9, 9, 9, 9, 9, 9, 9, 9] : List Nat).getD k 9
def cap (k : Nat) : Nat := ([0, 0, 0, 2, 2, 2, 2, 2, 2, 2, 1, 1, 1, 1, 1, 2, 3, 1, 2, 3, 1, 2, 2, 2, 2, 2, 1, 0, 2, 1, 0, 1] : List Nat).getD k 0
/-- the kinds whose first part the model keeps -/
def kpX (k : Nat) : Bool := ([3, 5, 6, 7, 8, 9, 15, 16, 18, 19, 22] : List Nat).contains k
def leaf (k : Nat) : Bool := ([0, 1, 2, 27, 30] : List Nat).contains k
def arg (μ : Sg) (p x : Nat) : Int32 := if p = 0 then sI μ 2 x else if p = 1 then sI μ 3 x else sI μ 4 x
/-- the acts that were made -/
def RA (na : Nat) (σ μ : Sg) : Prop := sI σ 1 3 = nI na ∧ sI μ 0 0 = nI na ∧ na ≤ 60 ∧ ∀ x, x < na → ∃ k, k < 32 ∧ sI μ 1 x = nI k ∧ sI σ 2 (4 * x) = nI k ∧ sI σ 2 (4 * x + 1) = sI μ 2 x ∧ sI σ 2 (4 * x + 2) = sI μ 3 x ∧ sI σ 2 (4 * x + 3) = sI μ 4 x ∧ sI σ 4 x = nI (ahd k) ∧
  (1 ≤ nps k → sI σ 3 (3 * x) = arg μ (ps0 k) x ∧ ∃ y, y < x ∧ arg μ (ps0 k) x = nI y) ∧ (2 ≤ nps k → sI σ 3 (3 * x + 1) = arg μ (ps1 k) x ∧ ∃ y, y < x ∧ arg μ (ps1 k) x = nI y) ∧ (3 ≤ nps k → sI σ 3 (3 * x + 2) = arg μ (ps2 k) x ∧ ∃ y, y < x ∧ arg μ (ps2 k) x = nI y) ∧
  (k = 1 ∨ k = 30 ∨ k = 31 → ∃ z, z < 8 ∧ sI μ 2 x = nI z) ∧ (k = 4 → ∃ z, z < 8 ∧ sI μ 3 x = nI z) ∧ (k = 21 → ∃ z, z ≤ 8 ∧ sI μ 3 x = nI z) ∧ (k = 25 → ∃ z, z < 60 ∧ sI μ 2 x = nI z)
/-- an entry of both stacks that waits for a part: its act a of kind k, its frame f, at the stage j -/
def EntP (so dl : Nat → Nat) (th na mk : Nat) (σ μ : Sg) (i a f k j m : Nat) : Prop := a < na ∧ f < mk ∧ k < 32 ∧ j < cap k ∧ m ≤ 1700 ∧ sI σ 22 i = nI a ∧ sI μ 21 i = nI a ∧ sI σ 23 i = nI f ∧ sI μ 23 i = nI f ∧ sI μ 1 a = nI k ∧ sI σ 26 i = nI m ∧ sI μ 28 i = nI m ∧ sI σ 24 i = nI j ∧
  ((sI σ 27 i = 0 ∧ sI μ 22 i = nI j ∧ (1 ≤ j → kpX k = true → V so dl th (sL σ 25 (3 * i)) (sI μ 24 i) (sI μ 25 i)) ∧ (2 ≤ j → V so dl th (sL σ 25 (3 * i + 1)) (sI μ 26 i) (sI μ 27 i)) ∧ (k = 28 → 1 ≤ j → ∃ q, q < th ∧ so q = 7 ∧ sL σ 25 (3 * i) = pk 7 (nI (dl q)) ∧ sI μ 25 i = nI q)) ∨
   (k = 22 ∧ j = 1 ∧ sI μ 22 i = 2 ∧ (∃ e, 1 ≤ e ∧ e ≤ 8 ∧ sI σ 27 i = nI e) ∧ sI μ 24 i = sI σ 27 i ∧ sI μ 25 i = sI σ 28 i ∧ sI μ 29 i = sI σ 29 i))
def Ent (so dl : Nat → Nat) (th na mk : Nat) (σ μ : Sg) (i : Nat) : Prop := ∃ a f k j m : Nat, EntP so dl th na mk σ μ i a f k j m
theorem EntP.frame {so dl so' dl' : Nat → Nat} {th th' na mk mk' i a f k j m : Nat} {σ μ σ' μ' : Sg} (h : EntP so dl th na mk σ μ i a f k j m) (hc : ∀ o, 22 ≤ o → o ≤ 29 → sI σ' o i = sI σ o i) (hl : ∀ w, w < j → sL σ' 25 (3 * i + w) = sL σ 25 (3 * i + w)) (hm : ∀ o, 21 ≤ o → o ≤ 29 → sI μ' o i = sI μ o i) (hk : ∀ x, sI μ' 1 x = sI μ 1 x) (hth : th ≤ th') (hs : ∀ k, k < th → so' k = so k) (hd : ∀ k, k < th → dl' k = dl k) (hmk : mk ≤ mk') : EntP so' dl' th' na mk' σ' μ' i a f k j m := by
  obtain ⟨h1, h2, h3, h4, h5, h6, h7, h8, h9, h10, h11, h12, h13, h14⟩ := h
  refine ⟨h1, by omega, h3, h4, h5, by rw [hc 22 (by omega) (by omega)]; exact h6, by rw [hm 21 (by omega) (by omega)]; exact h7, by rw [hc 23 (by omega) (by omega)]; exact h8, by rw [hm 23 (by omega) (by omega)]; exact h9, by rw [hk]; exact h10, by rw [hc 26 (by omega) (by omega)]; exact h11, by rw [hm 28 (by omega) (by omega)]; exact h12, by rw [hc 24 (by omega) (by omega)]; exact h13, ?_⟩
  rw [hc 27 (by omega) (by omega), hc 28 (by omega) (by omega), hc 29 (by omega) (by omega), hm 22 (by omega) (by omega), hm 24 (by omega) (by omega), hm 25 (by omega) (by omega), hm 26 (by omega) (by omega), hm 27 (by omega) (by omega), hm 29 (by omega) (by omega)]
  rcases h14 with ⟨g1, g2, g3, g4, g5⟩ | g
  · refine Or.inl ⟨g1, g2, fun q1 q2 => ?_, fun q1 => ?_, fun q1 q2 => ?_⟩
    · have e := hl 0 (by omega)
      rw [Nat.add_zero] at e
      rw [e]
      exact (g3 q1 q2).mono hth hs hd
    · rw [hl 1 (by omega)]
      exact (g4 q1).mono hth hs hd
    · have e := hl 0 (by omega)
      rw [Nat.add_zero] at e
      obtain ⟨q, p1, p2, p3, p4⟩ := g5 q1 q2
      exact ⟨q, by omega, by rw [hs q p1]; exact p2, by rw [e, hd q p1]; exact p3, p4⟩
  · exact Or.inr g
theorem Ent.frame {so dl so' dl' : Nat → Nat} {th th' na mk mk' i : Nat} {σ μ σ' μ' : Sg} (h : Ent so dl th na mk σ μ i) (hc : ∀ o, 22 ≤ o → o ≤ 29 → sI σ' o i = sI σ o i) (hl : ∀ w, w < 3 → sL σ' 25 (3 * i + w) = sL σ 25 (3 * i + w)) (hm : ∀ o, 21 ≤ o → o ≤ 29 → sI μ' o i = sI μ o i) (hk : ∀ x, sI μ' 1 x = sI μ 1 x) (hth : th ≤ th') (hs : ∀ k, k < th → so' k = so k) (hd : ∀ k, k < th → dl' k = dl k) (hmk : mk ≤ mk') : Ent so' dl' th' na mk' σ' μ' i := by
  obtain ⟨a, f, k, j, m, h⟩ := h
  have h3 : j < 3 := Nat.lt_of_lt_of_le h.2.2.2.1 (by
    have : ∀ k, k < 32 → cap k ≤ 3 := by decide
    exact this k h.2.2.1)
  exact ⟨a, f, k, j, m, h.frame hc (fun w hw => hl w (by omega)) hm hk hth hs hd hmk⟩
theorem cap3 {k : Nat} (h : k < 32) : cap k ≤ 3 := by
  have : ∀ k, k < 32 → cap k ≤ 3 := by decide
  exact this k h
def cnt (P : Nat → Bool) : Nat → Nat
  | 0 => 0
  | n + 1 => cnt P n + (if P n = true then 1 else 0)
theorem cnt_congr {P P' : Nat → Bool} : ∀ {n : Nat}, (∀ i, i < n → P' i = P i) → cnt P' n = cnt P n
  | 0, _ => rfl
  | n + 1, h => by
    show cnt P' n + _ = cnt P n + _
    rw [cnt_congr (fun i hi => h i (by omega)), h n (by omega)]
theorem cnt_le {P : Nat → Bool} : ∀ (n : Nat), cnt P n ≤ n
  | 0 => Nat.le_refl _
  | n + 1 => by
    show cnt P n + _ ≤ n + 1
    have := cnt_le (P := P) n
    split <;> omega
/-- an entered call -/
def isCl (σ μ : Sg) (i : Nat) : Bool := decide (sI μ 1 (sI σ 22 i).toNatClampNeg = 25 ∧ sI σ 24 i = 1)
theorem isCl_frame {σ μ σ' μ' : Sg} {n : Nat} (hc : ∀ i, i < n → sI σ' 22 i = sI σ 22 i) (hc2 : ∀ i, i < n → sI σ' 24 i = sI σ 24 i) (hk : ∀ x, sI μ' 1 x = sI μ 1 x) : cnt (isCl σ' μ') n = cnt (isCl σ μ) n := by
  refine cnt_congr (fun i hi => ?_)
  unfold isCl
  rw [hc i hi, hc2 i hi, hk]
theorem cnt_up {P : Nat → Bool} (n : Nat) : cnt P n ≤ cnt P (n + 1) := by
  show cnt P n ≤ cnt P n + _
  omega
theorem cnt_up1 {P : Nat → Bool} (n : Nat) : cnt P (n + 1) ≤ cnt P n + 1 := by
  show cnt P n + _ ≤ _
  split <;> omega
/-- a copy that has got its first part -/
def isCp (σ μ : Sg) (i : Nat) : Bool := decide (sI μ 1 (sI σ 22 i).toNatClampNeg = 19 ∧ ¬ sI σ 24 i = 0)
theorem isCp_frame {σ μ σ' μ' : Sg} {n : Nat} (hc : ∀ i, i < n → sI σ' 22 i = sI σ 22 i) (hc2 : ∀ i, i < n → sI σ' 24 i = sI σ 24 i) (hk : ∀ x, sI μ' 1 x = sI μ 1 x) : cnt (isCp σ' μ') n = cnt (isCp σ μ) n := by
  refine cnt_congr (fun i hi => ?_)
  unfold isCp
  rw [hc i hi, hc2 i hi, hk]
/-- the entered calls and the copies among n entries; each step allows for 17 halves of a change, e of them are still allowed for -/
def Cn (cl ch s e : Nat) (σ μ : Sg) (n : Nat) : Prop := cl = cnt (isCl σ μ) n ∧ 2 * ch + 15 * cnt (isCp σ μ) n + e ≤ 17 * s
theorem Cn.w {cl ch s e ch' e' n : Nat} {σ μ : Sg} (h : Cn cl ch s e σ μ n) (he : 2 * ch' + e' ≤ 2 * ch + e) : Cn cl ch' s e' σ μ n := ⟨h.1, by have := h.2; omega⟩
theorem Cn.fr {cl ch s e ch' s' e' n : Nat} {σ μ σ' μ' : Sg} (h : Cn cl ch s e σ μ n) (he : 2 * ch' + e' + 17 * s ≤ 2 * ch + e + 17 * s') (hc : ∀ i, i < n → sI σ' 22 i = sI σ 22 i) (hc2 : ∀ i, i < n → sI σ' 24 i = sI σ 24 i) (hk : ∀ x, sI μ' 1 x = sI μ 1 x) : Cn cl ch' s' e' σ' μ' n := by
  obtain ⟨h1, h2⟩ := h
  refine ⟨h1.trans (isCl_frame hc hc2 hk).symm, ?_⟩
  rw [isCp_frame hc hc2 hk]
  omega
/-- the same, where the entry at n, of kind k, has got its part j -/
def CnV (cl ch s : Nat) (σ μ : Sg) (n k j : Nat) : Prop := cl = cnt (isCl σ μ) n + (if k = 25 ∧ j = 1 then 1 else 0) ∧ 2 * ch + 15 * (cnt (isCp σ μ) n + (if k = 19 ∧ 1 ≤ j then 1 else 0)) + (17 * (n + 1) + 15) ≤ 17 * s
theorem CnV.fr {cl ch s n k j : Nat} {σ μ σ' μ' : Sg} (h : CnV cl ch s σ μ n k j) (hc : ∀ i, i < n → sI σ' 22 i = sI σ 22 i) (hc2 : ∀ i, i < n → sI σ' 24 i = sI σ 24 i) (hk : ∀ x, sI μ' 1 x = sI μ 1 x) : CnV cl ch s σ' μ' n k j := by
  obtain ⟨h1, h2⟩ := h
  refine ⟨?_, ?_⟩
  · rw [isCl_frame hc hc2 hk]
    exact h1
  · rw [isCp_frame hc hc2 hk]
    exact h2
theorem CnV.no {cl ch s n k j : Nat} {σ μ : Sg} (h : CnV cl ch s σ μ n k j) (hk : ¬ (k = 25 ∧ j = 1)) : Cn cl ch s (17 * (n + 1) + 15) σ μ n := by
  obtain ⟨h1, h2⟩ := h
  rw [if_neg hk] at h1
  refine ⟨h1, ?_⟩
  generalize (if k = 19 ∧ 1 ≤ j then 1 else 0) = x at h2
  omega
/-- what is allowed for where a value of type t was given: a whole may be a row's length, and a call may open a frame -/
def Xv (t : Int32) (us mk cl s H : Nat) : Prop := 2 * us + 17 * H + (if t = 0 then 17 else 0) ≤ 16 + 17 * s ∧ 2 * mk + H + 1 ≤ 2 + s + cl
theorem Xv.mk {t : Int32} {us mk cl s H : Nat} (h1 : 2 * us + 17 * (H + 1) ≤ 16 + 17 * s) (h2 : 2 * mk + H + 1 ≤ 2 + s + cl) : Xv t us mk cl s H := by
  refine ⟨?_, h2⟩
  split <;> omega
theorem Xv.mk0 {t : Int32} {us mk cl s H : Nat} (ht : ¬ t = 0) (h1 : 2 * us + 17 * H ≤ 16 + 17 * s) (h2 : 2 * mk + H + 1 ≤ 2 + s + cl) : Xv t us mk cl s H := by
  refine ⟨?_, h2⟩
  rw [if_neg ht]
  exact h1
/-- how many runs there were -/
def rnb (x y : Int32) : Prop := x = y ∧ ∃ rn : Nat, rn ≤ 400 ∧ x = nI rn
/-- the memories, logs, slots, laters, what is told, and the counters, of both -/
def Bs (so dl ln : Nat → Nat) (th us lm mk ch tl cl fl na lim : Nat) (σ μ : Sg) : Prop :=
  Th so dl ln th us lm (sI μ 5) (sL σ 7) ∧ Mm so dl ln th (sL σ 7) (mT μ) (mN μ) ∧ Lg so dl ln th ch (sI σ 8) (sL σ 9) (sI μ 17) (sI μ 18) (sI μ 19) ∧ Sl so dl th mk (sL σ 13) (sI μ 13) (sI μ 14) ∧
  Lt so dl th mk na (sI σ 15) (sI σ 16) (sI σ 17) (sI σ 18) (sI σ 19) (sL σ 20) (sI μ 8) (sI μ 9) (sI μ 10) (sI μ 11) (sI μ 12) ∧ (∀ j, j < tl → sI σ 11 j = sI μ 20 j) ∧
  (sI σ 6 3 = nI us ∧ sI σ 6 4 = nI ch ∧ sI μ 0 20 = nI ch ∧ sI σ 12 1 = nI mk ∧ sI μ 0 15 = nI mk ∧ sI σ 14 6 = nI lm ∧ sI μ 0 6 = nI th) ∧
  (sI σ 5 4 = nI tl ∧ sI μ 0 24 = nI tl ∧ sI σ 5 8 = nI cl ∧ sI μ 0 47 = nI cl ∧ sI σ 10 2 = nI fl ∧ sI μ 0 44 = nI fl ∧ sI σ 10 0 = nI lim ∧ sI μ 0 46 = nI lim) ∧ rnb (sI σ 0 2) (sI μ 0 5) ∧ sL σ 10 6 = pk 1 0
/-- how far the counters may be: s steps, H entries -/
def Bd (th us lm mk ch tl cl s lim H : Nat) : Prop := 2 * us + 17 * H ≤ 16 + 17 * s ∧ 2 * ch + 17 * H ≤ 17 * s ∧ lm + H ≤ s ∧ th + H ≤ s ∧ 2 * mk + H ≤ 2 + s + cl ∧ 1 ≤ mk ∧ tl ≤ 40 ∧ cl ≤ 8 ∧ s ≤ lim ∧ lim ≤ 200 ∧ 8 ≤ us
/-- all that both stacks and memories have in common, with n entries that wait -/
def Rb (so dl ln : Nat → Nat) (th us lm mk ch tl cl fl na s lim n H : Nat) (σ μ : Sg) : Prop := Bs so dl ln th us lm mk ch tl cl fl na lim σ μ ∧ Bd th us lm mk ch tl cl s lim H ∧ RA na σ μ ∧ sI σ 10 1 = nI s ∧ ∀ i, i < n → Ent so dl th na mk σ μ i
/-- the class's control: h entries, the course goes on by e, c, a -/
def Cc (h : Nat) (e c a : Int32) (σ : Sg) : Prop := sI σ 21 8 = nI h ∧ sI σ 21 9 = nI (h - 1) ∧ sI σ 10 3 = e ∧ sI σ 10 4 = c ∧ sI σ 10 5 = a
/-- the topmost act is a leaf: the model is to begin it -/
def StL (φ : Nat) (σ μ : Sg) : Prop := ∃ so dl ln th us lm mk ch tl cl fl na s lim n a f k, Rb so dl ln th us lm mk ch tl cl fl na s lim n (n + 1) σ μ ∧ Cn cl ch s (17 * (n + 1)) σ μ n ∧ fl ≤ 20 ∧ Cc (n + 1) 0 0 (-1) σ ∧ 4 * (lim - s) + 2 * (n + 1) + 1 ≤ φ ∧
  a < na ∧ f < mk ∧ leaf k = true ∧ sI μ 1 a = nI k ∧ k < 32 ∧ sI σ 22 n = nI a ∧ sI σ 23 n = nI f ∧ sI σ 24 n = 0 ∧ 1 ≤ s ∧ sI μ 0 45 = nI (s - 1) ∧ sI μ 0 26 = nI n ∧ sI μ 0 36 = 0 ∧ sI μ 0 37 = nI a ∧ sI μ 0 38 = nI f
/-- the topmost act, of parts, is to begin its part w (0, or what is always done): the model is to begin that -/
def StC (φ : Nat) (σ μ : Sg) : Prop := ∃ so dl ln th us lm mk ch tl cl fl na s lim n a f k j m, Rb so dl ln th us lm mk ch tl cl fl na s lim n (n + 1) σ μ ∧ EntP so dl th na mk σ μ n a f k j m ∧ Cn cl ch s (17 * (n + 1)) σ μ n ∧ fl ≤ 20 ∧ Cc (n + 1) 0 0 (-1) σ ∧ 4 * (lim - s) + 2 * (n + 1) + 1 ≤ φ ∧
  (j = 0 ∨ (k = 22 ∧ j = 1 ∧ ¬ sI σ 27 n = 0)) ∧ sI μ 0 45 = nI s ∧ sI μ 0 26 = nI (n + 1) ∧ sI μ 0 36 = 0 ∧ sI μ 0 37 = arg μ (if j = 0 then ps0 k else 1) a ∧ sI μ 0 38 = nI f
/-- the topmost act has got its part j -/
def StV (φ : Nat) (σ μ : Sg) : Prop := ∃ so dl ln th us lm mk ch tl cl fl na s lim n a f k j m, Rb so dl ln th us lm mk ch tl cl fl na s lim n (n + 1) σ μ ∧ EntP so dl th na mk (wI σ 24 n (nI j)) μ n a f k j m ∧ sI σ 24 n = nI (j + 1) ∧ CnV cl ch s σ μ n k j ∧ fl ≤ 20 ∧ Cc (n + 1) 0 0 (-1) σ ∧ 4 * (lim - s) + 2 * (n + 1) + 1 ≤ φ ∧
  sI μ 0 45 = nI s ∧ sI μ 0 26 = nI (n + 1) ∧ sI μ 0 36 = 1 ∧ V so dl th (sL σ 25 (3 * n + j)) (sI μ 0 39) (sI μ 0 40) ∧ Xv (sI μ 0 39) us mk cl s (n + 1)
/-- a failure goes on, or the run ends -/
def StF (φ : Nat) (σ μ : Sg) : Prop := ∃ so dl ln th us lm mk ch tl cl fl na s lim n q, Rb so dl ln th us lm mk ch tl cl fl na s lim n n σ μ ∧ Cn cl ch s (17 * n) σ μ n ∧ 1 ≤ q ∧ q ≤ 12 ∧ (q < 9 → fl ≤ 20) ∧ fl ≤ 21 ∧ Cc n (nI q) (sI σ 10 4) (sI σ 10 5) σ ∧ 4 * (lim - s) + 2 * n + (if q < 9 then 2 else 0) ≤ φ ∧
  sI μ 0 45 = nI s ∧ sI μ 0 26 = nI n ∧ sI μ 0 36 = (if q < 9 then 2 else 3) ∧ sI μ 0 41 = nI q ∧ sI μ 0 42 = sI σ 10 4 ∧ sI μ 0 43 = sI σ 10 5
/-- the run ends, and the class has still to leave a loop that asked again -/
def StJ (φ : Nat) (σ μ : Sg) : Prop := ∃ so dl ln th us lm mk ch tl cl fl na s lim n q a, Rb so dl ln th us lm mk ch tl cl fl na s lim n (n + 1) σ μ ∧ Cn cl ch s (17 * (n + 1)) σ μ n ∧ 9 ≤ q ∧ q ≤ 12 ∧ fl ≤ 21 ∧ Cc (n + 1) (nI q) (sI σ 10 4) (sI σ 10 5) σ ∧ 4 * (lim - s) + 2 * (n + 1) ≤ φ ∧ a < na ∧ sI σ 22 n = nI a ∧ sI μ 1 a = nI 24 ∧ sI σ 24 n = 2 ∧
  sI μ 0 45 = nI s ∧ sI μ 0 26 = nI n ∧ sI μ 0 36 = 3 ∧ sI μ 0 41 = nI q ∧ sI μ 0 42 = sI σ 10 4 ∧ sI μ 0 43 = sI σ 10 5
/-- the run has given its value -/
def StD (σ μ : Sg) : Prop := ∃ so dl ln th us lm mk ch tl cl fl na s lim v, Rb so dl ln th us lm mk ch tl cl fl na s lim 0 0 (wL σ 10 6 (pk 1 0)) μ ∧ fl ≤ 20 ∧ Cc 0 0 0 (-1) σ ∧ sL σ 10 6 = v ∧ sI μ 0 45 = nI s ∧ sI μ 0 26 = nI 0 ∧ sI μ 0 36 = 1 ∧ V so dl th v (sI μ 0 39) (sI μ 0 40)
def Rr (φ : Nat) (σ μ : Sg) : Prop := StL φ σ μ ∨ StC φ σ μ ∨ StV φ σ μ ∨ StF φ σ μ ∨ StJ φ σ μ ∨ StD σ μ
/-- the model goes from μ to μ' -/
def MR (μ μ' : Sg) : Prop := ∃ k, ∀ (n : Nat) (Q : Int32 → Sg → Prop), wX11_run_137 n μ' 1 Q → wX11_run_137 (n + k) μ 1 Q
theorem MR.rf {μ : Sg} : MR μ μ := ⟨0, fun _ _ h => h⟩
theorem MR.tr {a b c : Sg} (h1 : MR a b) (h2 : MR b c) : MR a c := by
  obtain ⟨k1, h1⟩ := h1
  obtain ⟨k2, h2⟩ := h2
  exact ⟨k2 + k1, fun n Q h => by rw [← Nat.add_assoc]; exact h1 _ Q (h2 n Q h)⟩
theorem ms_begin {μ μ' : Sg} (h0 : sI μ 0 36 = 0) (h : ∀ K : Sg → Prop, K μ' → wX11_begin μ K) : MR μ μ' := ⟨1, fun n Q k => by
  unfold wX11_run_137
  exact gF ne10 (gT h0 (h _ k))⟩
theorem ms_up {μ μ' : Sg} (h0 : sI μ 0 36 = 1) (ht : ¬ sI μ 0 26 = 0) (h : ∀ K : Sg → Prop, K μ' → wX11_up μ K) : MR μ μ' := ⟨1, fun n Q k => by
  unfold wX11_run_137
  exact gF ne10 (gF (by rw [h0]; decide) (gF ht (gT h0 (h _ k))))⟩
theorem ms_fail {μ μ' : Sg} (h0 : sI μ 0 36 = 2) (ht : ¬ sI μ 0 26 = 0) (h : ∀ K : Sg → Prop, K μ' → wX11_upFailure μ K) : MR μ μ' := ⟨1, fun n Q k => by
  unfold wX11_run_137
  exact gF ne10 (gF (by rw [h0]; decide) (gF ht (gF (by rw [h0]; decide) (gT h0 (h _ k)))))⟩
theorem ms_leave {μ μ' : Sg} {n a : Nat} (h0 : sI μ 0 36 = 3) (ht : sI μ 0 26 = nI (n + 1)) (hn : n < 220) (ha : sI μ 21 n = nI a) (ha2 : a < 60) (h : ∀ K : Sg → Prop, K μ' → wX11_leave (wI μ 0 26 (nI n)) (nI n) (nI a) (sI μ 1 a) (sI μ 22 n) K) : MR μ μ' := ⟨1, fun q Q k => by
  unfold wX11_run_137
  refine gF ne10 (gF (by rw [h0]; decide) (gF (neN (n + 1) 0 ht rfl (by omega) (by omega) (by decide)) (gF (by rw [h0]; decide) (gF (by rw [h0]; decide) ?_))))
  have e : sI μ 0 26 - (1 : Int32) = nI n := subN (n + 1) 1 ht rfl (by omega)
  rw [e, nI_clamp (by omega), ha, nI_clamp (by omega)]
  exact ⟨vp_in_nI hn (by decide), vp_in_nI hn (by decide), vp_in_nI ha2 (by decide), vp_in_nI hn (by decide), h _ k⟩⟩
