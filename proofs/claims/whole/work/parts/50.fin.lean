/-! what a step leaves as it was: the acts, the entries below n, the course -/
def Fc (σ σ' : Sg) (n : Nat) : Prop := (∀ o x, 1 ≤ o → o ≤ 4 → sI σ' o x = sI σ o x) ∧ (∀ o x, 22 ≤ o → o ≤ 29 → x < n → sI σ' o x = sI σ o x) ∧ (∀ x, x < 3 * n → sL σ' 25 x = sL σ 25 x) ∧ sI σ' 10 1 = sI σ 10 1 ∧ sI σ' 10 3 = sI σ 10 3 ∧ sI σ' 10 4 = sI σ 10 4 ∧ sI σ' 10 5 = sI σ 10 5 ∧ sI σ' 21 9 = sI σ 21 9 ∧ sI σ' 21 8 = sI σ 21 8
def Fm (μ μ' : Sg) (n : Nat) : Prop := sI μ' 0 0 = sI μ 0 0 ∧ (∀ o x, 1 ≤ o → o ≤ 4 → sI μ' o x = sI μ o x) ∧ (∀ o x, 21 ≤ o → o ≤ 29 → x < n → sI μ' o x = sI μ o x)
theorem Fc.rf {σ : Sg} {n : Nat} : Fc σ σ n := ⟨fun _ _ _ _ => rfl, fun _ _ _ _ _ => rfl, fun _ _ => rfl, rfl, rfl, rfl, rfl, rfl, rfl⟩
theorem Fc.tr {σ σ' σ'' : Sg} {n : Nat} (h : Fc σ σ' n) (g : Fc σ' σ'' n) : Fc σ σ'' n := by
  obtain ⟨h1, h2, h3, h4, h5, h6, h7, h8, h9⟩ := h
  obtain ⟨g1, g2, g3, g4, g5, g6, g7, g8, g9⟩ := g
  exact ⟨fun o x a b => (g1 o x a b).trans (h1 o x a b), fun o x a b c => (g2 o x a b c).trans (h2 o x a b c), fun x a => (g3 x a).trans (h3 x a), g4.trans h4, g5.trans h5, g6.trans h6, g7.trans h7, g8.trans h8, g9.trans h9⟩
theorem Fm.tr {μ μ' μ'' : Sg} {n : Nat} (h : Fm μ μ' n) (g : Fm μ' μ'' n) : Fm μ μ'' n := by
  obtain ⟨h1, h2, h3⟩ := h
  obtain ⟨g1, g2, g3⟩ := g
  exact ⟨g1.trans h1, fun o x a b => (g2 o x a b).trans (h2 o x a b), fun o x a b c => (g3 o x a b c).trans (h3 o x a b c)⟩
theorem Fm.rf {μ : Sg} {n : Nat} : Fm μ μ n := ⟨rfl, fun _ _ _ _ => rfl, fun _ _ _ _ _ => rfl⟩
theorem Fc.w1 {σ σ' : Sg} {n p q : Nat} {x : Int32} (h : Fc σ σ' n) (hp : p = 0 ∨ (5 ≤ p ∧ p ≤ 9) ∨ (11 ≤ p ∧ p ≤ 20) ∨ (22 ≤ p ∧ n ≤ q)) : Fc σ (wI σ' p q x) n := by
  obtain ⟨h1, h2, h3, h4, h5, h6, h7, h8, h9⟩ := h
  refine ⟨fun o y a b => ?_, fun o y a b c => ?_, fun y a => h3 y a, ?_, ?_, ?_, ?_, ?_, ?_⟩
  · rw [i_o (by omega)]; exact h1 o y a b
  · rw [sI_wI, if_neg (by omega)]; exact h2 o y a b c
  all_goals (rw [i_o (by omega)]; assumption)
theorem Fc.w2 {σ σ' : Sg} {n p q : Nat} {x : Int64} (h : Fc σ σ' n) (hp : p ≠ 25) : Fc σ (wL σ' p q x) n := by
  obtain ⟨h1, h2, h3, h4, h5, h6, h7, h8, h9⟩ := h
  refine ⟨h1, h2, fun y a => ?_, h4, h5, h6, h7, h8, h9⟩
  rw [sL_wL, if_neg (by omega)]; exact h3 y a
theorem Fm.w1 {μ μ' : Sg} {n p q : Nat} {x : Int32} (h : Fm μ μ' n) (hp : (p = 0 ∧ q ≠ 0) ∨ (5 ≤ p ∧ p ≤ 20) ∨ (21 ≤ p ∧ n ≤ q)) : Fm μ (wI μ' p q x) n := by
  obtain ⟨h1, h2, h3⟩ := h
  refine ⟨?_, fun o y a b => ?_, fun o y a b c => ?_⟩
  · rw [sI_wI, if_neg (by omega)]; exact h1
  · rw [sI_wI, if_neg (by omega)]; exact h2 o y a b
  · rw [sI_wI, if_neg (by omega)]; exact h3 o y a b c
theorem Fm.val {μ μ' : Sg} {n : Nat} {t x : Int32} (h : Fm μ μ' n) : Fm μ (mVal μ' t x) n := ((h.w1 (Or.inl ⟨rfl, by decide⟩)).w1 (Or.inl ⟨rfl, by decide⟩)).w1 (Or.inl ⟨rfl, by decide⟩)
theorem Fm.start {μ μ' : Sg} {n : Nat} {t x : Int32} (h : Fm μ μ' n) : Fm μ (mStart μ' t x) n := ((h.w1 (Or.inl ⟨rfl, by decide⟩)).w1 (Or.inl ⟨rfl, by decide⟩)).w1 (Or.inl ⟨rfl, by decide⟩)
theorem Fm.top {μ μ' : Sg} {n : Nat} {x : Int32} (h : Fm μ μ' n) : Fm μ (wI μ' 0 26 x) n := h.w1 (Or.inl ⟨rfl, by decide⟩)
theorem Fm.set {μ μ' : Sg} {n w : Nat} {t x : Int32} (h : Fm μ μ' n) : Fm μ (mSet μ' w t x) n := by
  unfold mSet
  split
  · exact (h.w1 (Or.inr (Or.inl (by decide)))).w1 (Or.inr (Or.inl (by decide)))
  · exact (h.w1 (Or.inr (Or.inl (by decide)))).w1 (Or.inr (Or.inl (by decide)))
theorem Fm.write {μ μ' : Sg} {n g w : Nat} {t x : Int32} (h : Fm μ μ' n) : Fm μ (mWrite μ' g w t x) n := (Fm.set (((h.w1 (Or.inr (Or.inl (by decide)))).w1 (Or.inr (Or.inl (by decide)))).w1 (Or.inr (Or.inl (by decide))))).w1 (Or.inl ⟨rfl, by decide⟩)
theorem Fm.eq {μ μ' μ'' : Sg} {n : Nat} (h : Fm μ μ' n) (e : ∀ o x, (o = 0 ∧ x = 0) ∨ (1 ≤ o ∧ o ≤ 4) ∨ 21 ≤ o → sI μ'' o x = sI μ' o x) : Fm μ μ'' n := by
  obtain ⟨h1, h2, h3⟩ := h
  exact ⟨by rw [e 0 0 (by omega)]; exact h1, fun o x a b => by rw [e o x (by omega)]; exact h2 o x a b, fun o x a b c => by rw [e o x (by omega)]; exact h3 o x a b c⟩
theorem Fm.link {μ μ' : Sg} {n k : Nat} {t x : Int32} (h : Fm μ μ' n) : Fm μ (mLink μ' k t x) n := h.eq (fun o x ho => mLink_I _ _ _ _ _ _ (by omega) (by omega) (by omega) (by omega))
theorem Fm.row {μ μ' : Sg} {n k z s0 : Nat} (h : Fm μ μ' n) (hz : z ≤ 16) : Fm μ (mRow μ' k z s0) n := h.eq (fun o x ho => mRow_I _ _ _ _ _ _ hz (by omega) (by omega) (by omega) (by omega))
theorem Fc.write {σ σ' : Sg} {n g c : Nat} {v : Int64} (h : Fc σ σ' n) : Fc σ (cWrite σ' g c v) n := ((((h.w1 (Or.inr (Or.inl (by decide)))).w2 (by decide)).w1 (Or.inr (Or.inl (by decide)))).w2 (by decide))
theorem Fc.link {σ σ' : Sg} {n u : Nat} {v : Int64} (h : Fc σ σ' n) : Fc σ (cLink σ' u v) n := (h.w1 (Or.inr (Or.inl (by decide)))).w2 (by decide)
theorem Fc.fill {σ σ' : Sg} {n c : Nat} {v : Int64} (h : Fc σ σ' n) : ∀ z, Fc σ (cFill σ' c v z) n
  | 0 => h
  | z + 1 => (Fc.fill h z).w2 (by decide)
theorem Fc.row {σ σ' : Sg} {n u z : Nat} {v : Int64} (h : Fc σ σ' n) : Fc σ (cRow σ' u z v) n := Fc.fill ((h.w1 (Or.inr (Or.inl (by decide)))).w2 (by decide)) z
theorem Fc.tell {σ σ' : Sg} {n o : Nat} {x : Int32} (h : Fc σ σ' n) : Fc σ (cTell σ' o x) n := by
  unfold cTell
  split
  · exact (h.w1 (Or.inr (Or.inr (Or.inl (by decide))))).w1 (Or.inr (Or.inl (by decide)))
  · exact h
theorem Fm.tell {μ μ' : Sg} {n o : Nat} {x : Int32} (h : Fm μ μ' n) : Fm μ (mTell μ' o x) n := by
  unfold mTell
  split
  · exact (h.w1 (Or.inr (Or.inl (by decide)))).w1 (Or.inl ⟨rfl, by decide⟩)
  · exact h
section FI
variable {so dl ln so' dl' ln' : Nat → Nat} {th us lm mk ch tl cl fl na s lim n a f k j m q φ th' us' lm' mk' ch' tl' cl' j' : Nat} {σ μ σ' μ' : Sg} {Q : Sg → Prop}
theorem cnt_fr (fc : Fc σ σ' n) (fm : Fm μ μ' n) : cnt (isCl σ' μ') n = cnt (isCl σ μ) n := isCl_frame (fun i hi => fc.2.1 22 i (by omega) (by omega) hi) (fun i hi => fc.2.1 24 i (by omega) (by omega) hi) (fun x => fm.2.1 1 x (by omega) (by omega))
theorem Cn.ff {e : Nat} (h : Cn cl ch s e σ μ n) (fc : Fc σ σ' n) (fm : Fm μ μ' n) : Cn cl ch s e σ' μ' n := h.fr (Nat.le_refl _) (fun i hi => fc.2.1 22 i (by omega) (by omega) hi) (fun i hi => fc.2.1 24 i (by omega) (by omega) hi) (fun x => fm.2.1 1 x (by omega) (by omega))
theorem ents_fr (hW : ∀ i, i < n → Ent so dl th na mk σ μ i) (fc : Fc σ σ' n) (fm : Fm μ μ' n) (ht : th ≤ th') (hs : ∀ k, k < th → so' k = so k) (hd : ∀ k, k < th → dl' k = dl k) (hmk : mk ≤ mk') : ∀ i, i < n → Ent so' dl' th' na mk' σ' μ' i := fun i hi =>
  (hW i hi).frame (fun o a b => fc.2.1 o i a b hi) (fun w hw => fc.2.2.1 _ (by omega)) (fun o a b => fm.2.2 o i a b hi) (fun x => fm.2.1 1 x (by omega) (by omega)) ht hs hd hmk
/-- the topmost entry, at n, gives v -/
theorem fin_give {v : Int64} (hW : ∀ i, i < n → Ent so dl th na mk σ μ i) (hRA : RA na σ μ) (hs : sI σ 10 1 = nI s) (hcl : Cn cl' ch' s (17 * n + 15) σ μ n) (hfl : fl ≤ 20) (hn : n < 200) (hC : Cc (n + 1) 0 0 (-1) σ) (hφ : 4 * (lim - s) + 2 * (n + 1) + 1 ≤ φ + 1)
    (hB : Bs so' dl' ln' th' us' lm' mk' ch' tl' cl' fl na lim σ' μ') (hbd : Bd th' us' lm' mk' ch' tl' cl' s lim n ∧ Xv (sI μ' 0 39) us' mk' cl' s n) (fc : Fc σ σ' n) (fm : Fm μ μ' n) (ht : th ≤ th') (hso : ∀ k, k < th → so' k = so k) (hdl : ∀ k, k < th → dl' k = dl k) (hmk : mk ≤ mk') (m45 : sI μ' 0 45 = nI s) (m26 : sI μ' 0 26 = nI n) (m36 : sI μ' 0 36 = 1) (hV : V so' dl' th' v (sI μ' 0 39) (sI μ' 0 40)) (hmr : MR μ μ') (kk : ∀ σ' μ', MR μ μ' → Rr φ σ' μ' → Q σ') : wX6_give σ' v Q := by
  obtain ⟨c8, c9, c3, c4, c5⟩ := hC
  rw [show n + 1 - 1 = n by omega] at c9
  obtain ⟨f1, f2, f3, f4, f5, f6, f7, f8, f9⟩ := id fc
  exact give_ok hB (hRA.fr f1 fm.1 fm.2.1) (f4.trans hs) hbd (ents_fr hW fc fm ht hso hdl hmk) (hcl.ff fc fm) hfl (f8.trans c9) hn (f5.trans c3) (f6.trans c4) (f7.trans c5) (by omega) m45 m26 m36 hV (fun σ'' hr => kk _ _ hmr hr)
/-- the topmost entry, at n, fails by itself -/
theorem fin_fail {e : Nat} {ex c : Int32} {μ0 : Sg} (hW : ∀ i, i < n → Ent so dl th na mk σ μ i) (hRA : RA na σ μ) (hs : sI σ 10 1 = nI s) (hcl : Cn cl ch' s (17 * n) σ μ n) (hfl : fl ≤ 20) (hn : n < 200) (hC : Cc (n + 1) 0 0 (-1) σ) (hφ : 4 * (lim - s) + 2 * (n + 1) + 1 ≤ φ + 1) (ha : sI σ 22 n = nI a)
    (hB : Bs so dl ln th us lm mk ch' tl cl fl na lim σ' μ') (hbd : Bd th us lm mk ch' tl cl s lim n) (fc : Fc σ σ' n) (fa : sI σ' 22 n = sI σ 22 n) (fm : Fm μ μ' n) (m45 : sI μ' 0 45 = nI s) (m26 : sI μ' 0 26 = nI n) (hex : ex = nI e) (he1 : 1 ≤ e) (he8 : e ≤ 8) (h0 : μ0 = mFail μ' fl (nI e) c (nI a)) (hmr : MR μ μ0) (kk : ∀ σ' μ', MR μ μ' → Rr φ σ' μ' → Q σ') : wX6_fail σ' ex c Q := by
  obtain ⟨c8, c9, c3, c4, c5⟩ := hC
  rw [show n + 1 - 1 = n by omega] at c9
  obtain ⟨f1, f2, f3, f4, f5, f6, f7, f8, f9⟩ := id fc
  have e5 : sI σ' 10 2 = nI fl := hB.2.2.2.2.2.2.2.1.2.2.2.2.1
  refine c_fail (f8.trans c9) hn e5 hfl (kk _ _ hmr ?_)
  subst h0 hex
  rw [fa, ha]
  exact fail_R hB (hRA.fr f1 fm.1 fm.2.1) (f4.trans hs) hbd (ents_fr hW fc fm (Nat.le_refl _) (fun _ _ => rfl) (fun _ _ => rfl) (Nat.le_refl _)) (hcl.ff fc fm) hfl he1 he8 (by omega) m45 m26 _
/-- the run ends at the topmost entry, at n -/
theorem fin_end {e : Nat} {ex : Int32} {μ0 : Sg} (hW : ∀ i, i < n → Ent so dl th na mk σ μ i) (hRA : RA na σ μ) (hs : sI σ 10 1 = nI s) (hcl : Cn cl ch s (17 * n) σ μ n) (hfl : fl ≤ 20) (hn : n < 200) (hC : Cc (n + 1) 0 0 (-1) σ) (hφ : 4 * (lim - s) + 2 * (n + 1) + 1 ≤ φ + 1) (ha : sI σ 22 n = nI a)
    (hB : Bs so dl ln th us lm mk ch tl cl fl na lim σ μ') (hbd : Bd th us lm mk ch tl cl s lim n) (fm : Fm μ μ' n) (m45 : sI μ' 0 45 = nI s) (m26 : sI μ' 0 26 = nI n) (hex : ex = nI e) (he1 : 9 ≤ e) (he8 : e ≤ 12) (h0 : μ0 = mGo μ' 3 (nI e) 0 (nI a)) (hmr : MR μ μ0) (kk : ∀ σ' μ', MR μ μ' → Rr φ σ' μ' → Q σ') : wX6_endRun σ ex Q := by
  obtain ⟨c8, c9, c3, c4, c5⟩ := hC
  rw [show n + 1 - 1 = n by omega] at c9
  refine c_endRun c9 hn (kk _ _ hmr ?_)
  subst h0 hex
  rw [ha]
  exact end_R hB (hRA.fr (fun _ _ _ _ => rfl) fm.1 fm.2.1) hs hbd (ents_fr hW Fc.rf fm (Nat.le_refl _) (fun _ _ => rfl) (fun _ _ => rfl) (Nat.le_refl _)) (hcl.ff Fc.rf fm) (by omega) he1 he8 (by omega) m45 m26 _
/-- the topmost entry, at n, waits at another stage: its part w begins -/
theorem fin_part {wx : Int32} {w y : Nat} (hW : ∀ i, i < n → Ent so dl th na mk σ μ i) (hRA : RA na σ μ) (hs : sI σ 10 1 = nI s) (hcl : Cn cl ch s (17 * (n + 1) + 15) σ μ n) (hfl : fl ≤ 20) (hC : Cc (n + 1) 0 0 (-1) σ) (hφ : 4 * (lim - s) + 2 * (n + 1) + 1 ≤ φ + 1)
    (hB : Bs so dl ln th us lm mk ch tl cl fl na lim σ' μ') (hbd : Bd th us lm mk ch tl cl s lim (n + 1)) (fc : Fc σ σ' n) (fm : Fm μ μ' n) (hE : EntP so dl th na mk σ' μ' n a f k j' m) (h25 : ¬ (k = 25 ∧ j' = 1)) (hw : wx = nI w) (hw3 : w < 3) (hp : sI σ 3 (3 * a + w) = nI y) (hy : y < na) (m45 : sI μ' 0 45 = nI s) (m26 : sI μ' 0 26 = nI (n + 1)) (m36 : sI μ' 0 36 = 0) (m37 : sI μ' 0 37 = nI y) (m38 : sI μ' 0 38 = nI f) (hmr : MR μ μ') (kk : ∀ σ' μ', MR μ μ' → Rr φ σ' μ' → Q σ') : wX6_beginPart σ' wx Q := by
  obtain ⟨c8, c9, c3, c4, c5⟩ := hC
  obtain ⟨f1, f2, f3, f4, f5, f6, f7, f8, f9⟩ := id fc
  have hRA' := hRA.fr f1 fm.1 fm.2.1
  refine part_ok hB hRA' (f4.trans hs) hbd (ents_fr hW fc fm (Nat.le_refl _) (fun _ _ => rfl) (fun _ _ => rfl) (Nat.le_refl _)) hE ?_ hfl ⟨f9.trans c8, f8.trans c9, f5.trans c3, f6.trans c4, f7.trans c5⟩ (by omega) hw hw3 ((f1 3 _ (by omega) (by omega)).trans hp) hy m45 m26 m36 m37 m38 (fun σ'' μ'' h hr => kk _ _ (hmr.tr h) hr)
  refine (hcl.ff fc fm).push hE hRA.2.2.1 h25 ?_
  split <;> omega
theorem ent_mk (hE : EntP so dl th na mk (wI σ 24 n (nI j)) μ n a f k j m) (hj : j' < cap k) (c22 : sI σ' 22 n = sI σ 22 n) (c23 : sI σ' 23 n = sI σ 23 n) (c26 : sI σ' 26 n = sI σ 26 n) (c27 : sI σ' 27 n = 0) (c24 : sI σ' 24 n = nI j') (m21 : sI μ' 21 n = sI μ 21 n) (m23 : sI μ' 23 n = sI μ 23 n) (m28 : sI μ' 28 n = sI μ 28 n) (m1 : ∀ x, sI μ' 1 x = sI μ 1 x) (m22 : sI μ' 22 n = nI j') (hmk : mk ≤ mk') (d1 : 1 ≤ j' → kpX k = true → V so dl th (sL σ' 25 (3 * n)) (sI μ' 24 n) (sI μ' 25 n)) (d2 : 2 ≤ j' → V so dl th (sL σ' 25 (3 * n + 1)) (sI μ' 26 n) (sI μ' 27 n)) (d3 : k = 28 → 1 ≤ j' → ∃ q, q < th ∧ so q = 7 ∧ sL σ' 25 (3 * n) = pk 7 (nI (dl q)) ∧ sI μ' 25 n = nI q) : EntP so dl th na mk' σ' μ' n a f k j' m := by
  obtain ⟨h1, h2, h3, h4, h5, h6, h7, h8, h9, h10, h11, h12, h13, h14⟩ := hE
  exact ⟨h1, by omega, h3, hj, h5, c22.trans h6, m21.trans h7, c23.trans h8, m23.trans h9, (m1 a).trans h10, c26.trans h11, m28.trans h12, c24, Or.inl ⟨c27, m22, d1, d2, d3⟩⟩
end FI
theorem wI_comm {μ : Sg} {o j o' j' : Nat} {x y : Int32} (h : o ≠ o' ∨ j ≠ j') : wI (wI μ o j x) o' j' y = wI (wI μ o' j' y) o j x := by
  unfold wI
  congr 1
  funext c d
  by_cases h1 : c = o' ∧ d = j'
  · dsimp only
    rw [if_pos h1, if_neg (by omega), if_pos h1]
  · dsimp only
    rw [if_neg h1, if_neg h1]
theorem mFail_top (μ : Sg) (g : Nat) (e c a x : Int32) : wI (mFail μ g e c a) 0 26 x = mFail (wI μ 0 26 x) g e c a := by
  have w : ∀ {μ : Sg} {j : Nat} {y : Int32}, j ≠ 26 → wI (wI μ 0 j y) 0 26 x = wI (wI μ 0 26 x) 0 j y := fun h => wI_comm (Or.inr h)
  unfold mFail mGo
  split
  · rw [w (by decide), w (by decide), w (by decide), w (by decide), w (by decide)]
  · rw [w (by decide), w (by decide), w (by decide), w (by decide), w (by decide)]
theorem mFail_26 (μ : Sg) (g : Nat) (e c a : Int32) : sI (mFail μ g e c a) 0 26 = sI μ 0 26 := by
  unfold mFail
  split <;> rfl
theorem mGo_top (μ : Sg) (m e c a x : Int32) : wI (mGo μ m e c a) 0 26 x = mGo (wI μ 0 26 x) m e c a := by
  have w : ∀ {μ : Sg} {j : Nat} {y : Int32}, j ≠ 26 → wI (wI μ 0 j y) 0 26 x = wI (wI μ 0 26 x) 0 j y := fun h => wI_comm (Or.inr h)
  unfold mGo
  rw [w (by decide), w (by decide), w (by decide), w (by decide)]
def Vx (so dl ln : Nat → Nat) (th us lm mk ch tl cl fl na s lim n a f k j m φ : Nat) (σ μ : Sg) : Prop := Rb so dl ln th us lm mk ch tl cl fl na s lim n (n + 1) σ μ ∧ EntP so dl th na mk (wI σ 24 n (nI j)) μ n a f k j m ∧ sI σ 24 n = nI (j + 1) ∧ CnV cl ch s σ μ n k j ∧ fl ≤ 20 ∧ Cc (n + 1) 0 0 (-1) σ ∧ 4 * (lim - s) + 2 * (n + 1) + 1 ≤ φ + 1 ∧
  sI μ 0 45 = nI s ∧ sI μ 0 26 = nI (n + 1) ∧ sI μ 0 36 = 1 ∧ V so dl th (sL σ 25 (3 * n + j)) (sI μ 0 39) (sI μ 0 40) ∧ Xv (sI μ 0 39) us mk cl s (n + 1)
