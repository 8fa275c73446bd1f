/-! small numbers as Int32 -/
theorem ltN {x y : Int32} (a b : Nat) (hx : x = nI a) (hy : y = nI b) (h : a < b) (hb : b < 2 ^ 31) : x < y := by rw [hx, hy]; exact nI_lt h hb
theorem nltN {x y : Int32} (a b : Nat) (hx : x = nI a) (hy : y = nI b) (h : b ≤ a) (ha : a < 2 ^ 31) : ¬ x < y := by rw [hx, hy]; exact nI_nlt h ha
theorem neN {x y : Int32} (a b : Nat) (hx : x = nI a) (hy : y = nI b) (h : a ≠ b) (ha : a < 2 ^ 31) (hb : b < 2 ^ 31) : ¬ x = y := by rw [hx, hy]; exact fun q => h ((nI_eq ha hb).mp q)
theorem inN {x : Int32} {N : Nat} (a : Nat) (hx : x = nI a) (h : a < N) (hN : N < 2 ^ 31) : vp_in x N := by rw [hx]; exact vp_in_nI h hN
theorem clN {x : Int32} (a : Nat) (hx : x = nI a) (h : a < 2 ^ 31) : x.toNatClampNeg = a := by rw [hx]; exact nI_clamp h
theorem nn0 {x : Int32} (a : Nat) (hx : x = nI a) (h : a < 2 ^ 31) : ¬ x < 0 := by rw [hx]; exact nI_pos h
theorem mulN {x y : Int32} (a b : Nat) (hx : x = nI a) (hy : y = nI b) : x * y = nI (a * b) := by rw [hx, hy, pk_mul]
theorem addN {x y : Int32} (a b : Nat) (hx : x = nI a) (hy : y = nI b) : x + y = nI (a + b) := by rw [hx, hy, nI_add]
theorem subN {x y : Int32} (a b : Nat) (hx : x = nI a) (hy : y = nI b) (h : b ≤ a) : x - y = nI (a - b) := by rw [hx, hy, pk_sub h]
theorem eqN {a b : Nat} (h : nI a = nI b) (ha : a < 2 ^ 31) (hb : b < 2 ^ 31) : a = b := (nI_eq ha hb).mp h
/-- a number of a row of at most a million places -/
def sm (n : Nat) : Prop := n < 1000000
/-- what is below 0, or not below n, or the number j -/
theorem casesN (x : Int32) {n : Nat} (hn : n < 2 ^ 31) : x < 0 ∨ (¬ x < 0 ∧ ¬ x < nI n) ∨ ∃ j : Nat, j < n ∧ x = nI j := by
  rcases pk_ix x hn with h | h | h
  · exact Or.inl h
  · refine Or.inr (Or.inl ⟨?_, ?_⟩)
    · intro q
      have h1 : (nI n) < 0 := Int32.lt_of_le_of_lt h q
      exact nI_pos hn h1
    · exact Int32.not_lt.mpr h
  · exact Or.inr (Or.inr h)
/-! roads -/
theorem gT {c A B : Prop} (h : c) (a : A) : (c → A) ∧ (¬ c → B) := ⟨fun _ => a, fun n => absurd h n⟩
theorem gF {c A B : Prop} (h : ¬ c) (b : B) : (c → A) ∧ (¬ c → B) := ⟨fun n => absurd n h, fun _ => b⟩
theorem gS {c A B : Prop} (h : ¬ c) (b : B) : (c → A) ∧ B := ⟨fun n => absurd n h, b⟩
theorem gH {x y : Int32} {A B : Prop} (h : x = y) (a : A) (b : x = y → B) : (x = y → A) ∧ B := ⟨fun _ => a, b h⟩
section CL
variable {σ : Sg}
/-! Value -/
theorem c_sort {v : Int64} {Q : Int32 → Sg → Prop} (k : Q (srt v) σ) : wX9_sort σ v Q := k
theorem c_number {v : Int64} {Q : Int32 → Sg → Prop} (k : Q (nbr v) σ) : wX9_number σ v Q := k
theorem c_of {t n : Int32} {Q : Int64 → Sg → Prop} (k : Q (pk t n) σ) : wX9_of σ t n Q := k
theorem c_whole {n : Int32} {Q : Int64 → Sg → Prop} (k : Q (pk 0 n) σ) : wX9_whole σ n Q := by
  unfold wX9_whole
  rw [pk_zero]
  exact k
def bi (p : Prop) [Decidable p] : Int32 := if p then 1 else 0
theorem bi_t {p : Prop} [Decidable p] (h : p) : bi p = 1 := if_pos h
theorem bi_f {p : Prop} [Decidable p] (h : ¬ p) : bi p = 0 := if_neg h
def isRw (t : Int32) : Prop := t = 2 ∨ t = 3 ∨ t = 4
theorem c_isRow {v : Int64} {Q : Int32 → Sg → Prop} (kt : isRw (srt v) → Q 1 σ) (kf : ¬ isRw (srt v) → Q 0 σ) : wX9_isRow σ v Q := by
  unfold wX9_isRow wX9_isRow_20
  refine c_sort ?_
  refine ⟨fun h => kt (Or.inl h), fun h1 => ⟨fun h => kt (Or.inr (Or.inl h)), fun h2 => ⟨fun h => kt (Or.inr (Or.inr h)), fun h3 => kf ?_⟩⟩⟩
  rintro (h | h | h)
  · exact h1 h
  · exact h2 h
  · exact h3 h
def isRL (t : Int32) : Prop := t = 3 ∨ t = 4
theorem c_isRowForLinks {v : Int64} {Q : Int32 → Sg → Prop} (kt : isRL (srt v) → Q 1 σ) (kf : ¬ isRL (srt v) → Q 0 σ) : wX9_isRowForLinks σ v Q := by
  unfold wX9_isRowForLinks wX9_isRowForLinks_15
  refine c_sort ?_
  refine ⟨fun h => kt (Or.inl h), fun h1 => ⟨fun h => kt (Or.inr h), fun h2 => kf ?_⟩⟩
  rintro (h | h)
  · exact h1 h
  · exact h2 h
def isLk (t : Int32) : Prop := t = 5 ∨ t = 6
theorem c_isLink {v : Int64} {Q : Int32 → Sg → Prop} (kt : isLk (srt v) → Q 1 σ) (kf : ¬ isLk (srt v) → Q 0 σ) : wX9_isLink σ v Q := by
  unfold wX9_isLink wX9_isLink_16
  refine c_sort ?_
  refine ⟨fun h => kt (Or.inl h), fun h1 => ⟨fun h => kt (Or.inr h), fun h2 => kf ?_⟩⟩
  rintro (h | h)
  · exact h1 h
  · exact h2 h
def isLN (t : Int32) : Prop := t = 5 ∨ t = 6 ∨ t = 1
theorem c_isLinkOrNothing {v : Int64} {Q : Int32 → Sg → Prop} (kt : isLN (srt v) → Q 1 σ) (kf : ¬ isLN (srt v) → Q 0 σ) : wX9_isLinkOrNothing σ v Q := by
  unfold wX9_isLinkOrNothing wX9_isLinkOrNothing_21
  refine c_sort ?_
  refine ⟨fun h => kt (Or.inl h), fun h1 => ⟨fun h => kt (Or.inr (Or.inl h)), fun h2 => ⟨fun h => kt (Or.inr (Or.inr h)), fun h3 => kf ?_⟩⟩⟩
  rintro (h | h | h)
  · exact h1 h
  · exact h2 h
  · exact h3 h
theorem c_isStrange {r v : Int64} {Q : Int32 → Sg → Prop} (kt : srt r = 4 ∧ srt v = 5 → Q 1 σ) (kf : ¬ (srt r = 4 ∧ srt v = 5) → Q 0 σ) : wX9_isStrange σ r v Q := by
  unfold wX9_isStrange
  refine c_sort ?_
  refine ⟨fun h => ?_, fun h => kf (fun q => h q.1)⟩
  refine c_sort ?_
  exact ⟨fun h2 => kt ⟨h, h2⟩, fun h2 => kf (fun q => h2 q.2)⟩
theorem ne10 : ¬ (1 : Int32) = 0 := by decide
/-! Fault -/
theorem c_ofThing {v : Int64} {w : Int32} {Q : Int32 → Sg → Prop} (k0 : ¬ w = 0 → Q 0 σ) (k1 : w = 0 → v = pk 1 0 → Q 1 σ) (k4 : w = 0 → ¬ v = pk 1 0 → Q 4 σ) : wX2_ofThing σ v w Q := by
  unfold wX2_ofThing
  rw [pk_none]
  exact ⟨fun h => ⟨fun h2 => k1 h (cmp0.mp h2), fun h2 => k4 h (fun q => h2 (cmp0.mpr q))⟩, k0⟩
/-- the failure of a value that should be a whole: 0, 1 (nothing), 4 -/
def fw (v : Int64) : Int32 := if srt v = 0 then 0 else if v = pk 1 0 then 1 else 4
theorem c_ofWhole {v : Int64} {Q : Int32 → Sg → Prop} (k : Q (fw v) σ) : wX2_ofWhole σ v Q := by
  unfold wX2_ofWhole wX2_ofWhole_13
  refine c_sort ?_
  by_cases h : srt v = 0
  · refine gT h ?_
    refine c_ofThing (fun _ => ?_) (fun q => absurd q (by decide)) (fun q => absurd q (by decide))
    simpa [fw, h] using k
  · refine gF h ?_
    refine c_ofThing (fun q => absurd rfl q) (fun _ q => ?_) (fun _ q => ?_)
    · have e : fw v = 1 := by unfold fw; rw [if_neg h, if_pos q]
      rw [e] at k; exact k
    · have e : fw v = 4 := by unfold fw; rw [if_neg h, if_neg q]
      rw [e] at k; exact k
def f1 (a b c : Int32) : Int32 := if a = 0 then (if b = 0 then c else b) else a
theorem c_firstOf {a b c : Int32} {Q : Int32 → Sg → Prop} (k : Q (f1 a b c) σ) : wX2_firstOf σ a b c Q := by
  unfold wX2_firstOf
  by_cases h : a = 0
  · refine gT h ?_
    by_cases h2 : b = 0
    · exact gT h2 (by simpa [f1, h, h2] using k)
    · exact gF h2 (by simpa [f1, h, h2] using k)
  · exact gF h (by simpa [f1, h] using k)
def fl (n : Int32) : Int32 := if n < 0 then 3 else if 16 < n then 12 else 0
theorem c_ofLength {n : Int32} {Q : Int32 → Sg → Prop} (k : Q (fl n) σ) : wX2_ofLength σ n Q := by
  unfold wX2_ofLength
  by_cases h : n < 0
  · exact gT h (by simpa [fl, h] using k)
  · refine gF h ?_
    by_cases h2 : 16 < n
    · exact gT h2 (by simpa [fl, h, h2] using k)
    · exact gF h2 (by simpa [fl, h, h2] using k)
def fp (i n : Int32) : Int32 := if i < 0 then 2 else if i < n then 0 else 2
theorem c_ofPlace {i n : Int32} {Q : Int32 → Sg → Prop} (k : Q (fp i n) σ) : wX2_ofPlace σ i n Q := by
  unfold wX2_ofPlace wX2_ofPlace_9
  by_cases h : i < 0
  · exact gT h (by simpa [fp, h] using k)
  · refine gF h ?_
    by_cases h2 : i < n
    · exact gT h2 (by simpa [fp, h, h2] using k)
    · exact gF h2 (by simpa [fp, h, h2] using k)
end CL
