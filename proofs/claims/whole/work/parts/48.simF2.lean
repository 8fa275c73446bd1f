theorem RA.fr {na : Nat} {σ μ σ' μ' : Sg} (h : RA na σ μ) (c1 : ∀ o j, 1 ≤ o → o ≤ 4 → sI σ' o j = sI σ o j) (m0 : sI μ' 0 0 = sI μ 0 0) (m1 : ∀ o j, 1 ≤ o → o ≤ 4 → sI μ' o j = sI μ o j) : RA na σ' μ' := by
  obtain ⟨hz, hmz, hna, hacts⟩ := h
  have eg : ∀ p x : Nat, arg μ' p x = arg μ p x := by
    intro p x
    unfold arg
    rw [m1 2 x (by omega) (by omega), m1 3 x (by omega) (by omega), m1 4 x (by omega) (by omega)]
  refine ⟨by rw [c1 1 3 (by omega) (by omega)]; exact hz, by rw [m0]; exact hmz, hna, fun x hx => ?_⟩
  simp only [eg, c1 2 _ (by omega) (by omega), c1 3 _ (by omega) (by omega), c1 4 _ (by omega) (by omega), m1 1 _ (by omega) (by omega), m1 2 _ (by omega) (by omega), m1 3 _ (by omega) (by omega), m1 4 _ (by omega) (by omega)]
  exact hacts x hx
theorem simF {φ : Nat} {σ μ : Sg} {Q : Sg → Prop} (h : StF (φ + 1) σ μ) (hne : ¬ sI σ 21 8 = 0) (kk : ∀ σ' μ', MR μ μ' → Rr φ σ' μ' → Q σ') : TC σ Q := by
  obtain ⟨so, dl, ln, th, us, lm, mk, ch, tl, cl, fl, na, s, lim, n, q, ⟨hB, hbd, hRA, hs, hW⟩, hcl, q1, q12, hf1, hf2, ⟨c8, c9, c3, -, -⟩, hφ, m45, m26, m36, m41, m42, m43⟩ := h
  cases n with
  | zero => exact absurd c8 hne
  | succ n =>
  rw [show n + 1 - 1 = n by omega] at c9
  have hbd0 := hbd
  obtain ⟨g1, g2, g3, g4, g5, g6, g7, g8, g9, g10, g11⟩ := hbd0
  obtain ⟨a, f, k, j, m, hE⟩ := hW n (by omega)
  have hWn : ∀ i, i < n → Ent so dl th na mk σ μ i := fun i hi => hW i (by omega)
  have hcn := cnt_le (P := isCl σ μ) (n + 1)
  have hcl0 := hcl
  have hcl : cl = cnt (isCl σ μ) (n + 1) := hcl0.1
  have hmk : mk ≤ 101 := by omega
  rw [cnt_ent hE hRA.2.2.1] at hcl
  obtain ⟨ha, hf, hk32, hcap, hm, h22, x21, h23, x23, hk, h26, x28, h24, hst⟩ := id hE
  have hj3 : j < 3 := Nat.lt_of_lt_of_le hcap (cap3 hk32)
  have ha60 : a < 60 := Nat.lt_of_lt_of_le ha hRA.2.2.1
  obtain ⟨k', hk', hk1, r0, r1, r2, r3, r4, r5, r6, r7, r8, r9, r10, r11⟩ := hRA.2.2.2 a ha
  have ek : k' = k := eqN (hk1.symm.trans hk) (by omega) (by omega)
  subst ek
  have e1 : sI σ 6 3 = nI us := hB.2.2.2.2.2.2.1.1
  have he0 : ¬ sI σ 10 3 = 0 := neN q 0 c3 rfl (by omega) (by omega) (by decide)
  have hbdn : Bd th us lm mk ch tl cl s lim n := ⟨by omega, by omega, by omega, by omega, by omega, g6, g7, g8, g9, g10, g11⟩
  refine tc_leave he0 ?_
  by_cases hA : q < 9 ∧ k' = 21 ∧ j = 0 ∧ (sI μ 3 a = 0 ∨ sI μ 3 a = nI q)
  · -- caught
    obtain ⟨hq9, rfl, rfl, hb⟩ := hA
    rw [if_pos hq9] at hφ m36
    obtain ⟨p1, y, hy, p2⟩ := r6 (by decide)
    have hp0 : sI μ 22 n = 0 := by
      rcases hst with ⟨-, x, -⟩ | ⟨x, -⟩
      · exact x
      · omega
    have h27 : sI σ 27 n = 0 := by
      rcases hst with ⟨x, -⟩ | ⟨x, -⟩
      · exact x
      · omega
    refine cl_catch hRA.1 hRA.2.2.1 c9 (by omega) h22 ha r0 h24 c3 (by omega) hq9 (by rw [r2]; exact hb) ?_
    unfold wX6_takeUp
    refine c_frame c9 (by omega) (c_whole ?_)
    rw [h23]
    refine c_fwrite (j := 7) hB.2.2.2.2.2.2.1.2.2.2.1 (by omega) hf rfl (by omega) (c_settle ?_)
    refine c_setStage (t := n) c9 (by omega) ?_
    have ent21 : EntP so dl th na mk (wI (cGo (wL σ 13 (8 * f + 7) (pk 0 (sI σ 10 4))) 0 0 (-1)) 24 n 1) (mStart (wI (wI (wI μ 13 (8 * f + 7) 0) 14 (8 * f + 7) (sI μ 0 42)) 22 n 1) (sI μ 4 a) (nI f)) n a f 21 1 m := by
      refine ⟨ha, hf, by omega, by decide, hm, h22, x21, h23, x23, hk, h26, x28, ?_, Or.inl ⟨h27, ?_, fun _ g => absurd g (by decide), fun g => by omega, fun g => by omega⟩⟩
      · rw [i_e]; rfl
      · simp only [mStart, sI_wI]
        rw [if_neg (by omega), if_neg (by omega), if_neg (by omega), if_pos (by simp)]
        rfl
    refine part_ok (so := so) (dl := dl) (ln := ln) (th := th) (us := us) (lm := lm) (mk := mk) (ch := ch) (tl := tl) (cl := cl) (fl := fl) (na := na) (lim := lim) (n := n) (w := 1) (y := y) (a := a) (f := f) (k := 21) (j := 1) (m := m) (s := s) (φ := φ) (μ := mStart (wI (wI (wI μ 13 (8 * f + 7) 0) 14 (8 * f + 7) (sI μ 0 42)) 22 n 1) (sI μ 4 a) (nI f)) ?_ hRA hs hbd (fun i hi => ?_) ?_ ?_ (hf1 hq9) ⟨c8, c9, rfl, rfl, rfl⟩ (by omega) rfl (by omega) (by rw [← p2]; exact p1) (by omega) m45 m26 rfl p2 rfl (fun σ' μ' hmr hr => kk σ' μ' (MR.tr (ms_fail m36 (neN (n + 1) 0 m26 rfl (by omega) (by omega) (by decide)) (fun K q => m_upF_catch m26 (by omega) x21 ha60 hk hp0 x23 (by omega) (by rw [m41]; exact hb) q)) hmr) hr)
    · have := Bs.slot (j := 8 * f + 7) hB (V.w (sI σ 10 4))
      rw [m42]
      exact this
    · refine (hWn i hi).frame (fun o h1 h2 => ?_) (fun w hw => ?_) (fun o h1 h2 => ?_) (fun _ => rfl) (Nat.le_refl _) (fun _ _ => rfl) (fun _ _ => rfl) (Nat.le_refl _)
      · simp only [cGo, sI_wI, sI_wL]
        rw [if_neg (by omega), if_neg (by omega), if_neg (by omega), if_neg (by omega)]
      · simp only [cGo, sL_wI, sL_wL]
        rw [if_neg (by omega)]
      · simp only [mStart, sI_wI]
        rw [if_neg (by omega), if_neg (by omega), if_neg (by omega), if_neg (by omega), if_neg (by omega), if_neg (by omega)]
    · exact ent21
    · rw [if_neg (by omega), Nat.add_zero] at hcl
      refine ((hcl0.down hcl).fr (σ' := wI (cGo (wL σ 13 (8 * f + 7) (pk 0 (sI σ 10 4))) 0 0 (-1)) 24 n 1) (μ' := mStart (wI (wI (wI μ 13 (8 * f + 7) 0) 14 (8 * f + 7) (sI μ 0 42)) 22 n 1) (sI μ 4 a) (nI f)) (Nat.le_refl _) (fun i hi => rfl) (fun i hi => ?_) (fun _ => rfl)).push ent21 hRA.2.2.1 (by omega) (by rw [if_neg (by omega)]; omega)
      rw [i_j (by omega)]
      rfl
  by_cases hBc : q < 9 ∧ k' = 22 ∧ j = 0
  · -- what is always done
    obtain ⟨hq9, rfl, rfl⟩ := hBc
    rw [if_pos hq9] at hφ m36
    have hp0 : sI μ 22 n = 0 := by
      rcases hst with ⟨-, x, -⟩ | ⟨-, x, -⟩
      · exact x
      · omega
    refine cl_hold hRA.1 hRA.2.2.1 c9 (by omega) h22 ha r0 h24 c3 (by omega) hq9 ?_
    refine kk _ (mStart (wI (wI (wI (wI μ 24 n (sI μ 0 41)) 25 n (sI μ 0 42)) 29 n (sI μ 0 43)) 22 n 2) (sI μ 3 a) (nI f)) (ms_fail m36 (neN (n + 1) 0 m26 rfl (by omega) (by omega) (by decide)) (fun K q => m_upF_hold m26 (by omega) x21 ha60 hk hp0 x23 q)) (Or.inr (Or.inl ?_))
    refine ⟨so, dl, ln, th, us, lm, mk, ch, tl, cl, fl, na, s, lim, n, a, f, 22, 1, m, ⟨hB, hbd, hRA, hs, fun i hi => ?_⟩, ?_, ?_, hf1 hq9, ⟨c8, c9, rfl, rfl, rfl⟩, by omega, Or.inr ⟨rfl, rfl, ?_⟩, m45, m26, rfl, rfl, rfl⟩
    · refine (hWn i hi).frame (fun o h1 h2 => ?_) (fun w hw => rfl) (fun o h1 h2 => ?_) (fun _ => rfl) (Nat.le_refl _) (fun _ _ => rfl) (fun _ _ => rfl) (Nat.le_refl _)
      · simp only [cGo, cHold, sI_wI]
        rw [if_neg (by omega), if_neg (by omega), if_neg (by omega), if_neg (by omega), if_neg (by omega), if_neg (by omega), if_neg (by omega)]
      · simp only [mStart, sI_wI]
        rw [if_neg (by omega), if_neg (by omega), if_neg (by omega), if_neg (by omega), if_neg (by omega), if_neg (by omega), if_neg (by omega)]
    · have w27 : sI (cGo (wI (cHold σ n) 24 n 1) 0 0 (-1)) 27 n = nI q := by
        simp [cGo, cHold, sI_wI, c3]
      have w28 : sI (cGo (wI (cHold σ n) 24 n 1) 0 0 (-1)) 28 n = sI σ 10 4 := by
        simp [cGo, cHold, sI_wI]
      have w29 : sI (cGo (wI (cHold σ n) 24 n 1) 0 0 (-1)) 29 n = sI σ 10 5 := by
        simp [cGo, cHold, sI_wI]
      refine ⟨ha, hf, by omega, by decide, hm, h22, x21, h23, x23, hk, h26, x28, ?_, Or.inr ⟨rfl, rfl, ?_, ⟨q, q1, by omega, w27⟩, ?_, ?_, ?_⟩⟩
      · simp [cGo, sI_wI]
        rfl
      · simp [mStart, sI_wI]
      · rw [w27]
        simp [mStart, sI_wI, m41]
      · rw [w28]
        simp [mStart, sI_wI, m42]
      · rw [w29]
        simp [mStart, sI_wI, m43]
    · rw [if_neg (by omega), Nat.add_zero] at hcl
      refine (hcl0.down hcl).fr (Nat.le_refl _) (fun i hi => ?_) (fun i hi => ?_) (fun _ => rfl)
      · rfl
      simp only [cGo, cHold, sI_wI]
      rw [if_neg (by omega), if_neg (by omega), if_neg (by omega), if_neg (by omega), if_neg (by omega), if_neg (by omega), if_neg (by omega)]
    · have w27 : sI (cGo (wI (cHold σ n) 24 n 1) 0 0 (-1)) 27 n = nI q := by
        simp [cGo, cHold, sI_wI, c3]
      rw [w27]
      exact neN q 0 rfl rfl (by omega) (by omega) (by decide)
  -- it is left
  refine cl_rest hRA.1 hRA.2.2.1 c9 (by omega) h22 ha r0 hk32 h24 hj3 c3 (by omega) (by omega) (fun a1 a2 a3 => by rw [r2]; exact fun g => hA ⟨a1, a3, a2, g⟩) (fun a1 a2 a3 => hBc ⟨a1, a3, a2⟩) ?_
  have hp : k' ≠ 22 → sI μ 22 n = nI j := by
    intro hn
    rcases hst with ⟨-, x, -⟩ | ⟨x, -⟩
    · exact x
    · exact absurd x hn
  have hmodel : ∀ μ1 : Sg, (∀ K : Sg → Prop, K μ1 → wX11_leave (wI μ 0 26 (nI n)) (nI n) (nI a) (nI k') (sI μ 22 n) K) → (k' = 28 → ¬ sI μ 22 n = 1) → MR μ μ1 := by
    intro μ1 hl h28
    by_cases hq9 : q < 9
    · rw [if_pos hq9] at m36
      refine ms_fail m36 (neN (n + 1) 0 m26 rfl (by omega) (by omega) (by decide)) (fun K w => m_upF_pop m26 (by omega) x21 ha60 hk hk32 (fun a1 a2 a3 => ?_) (fun a1 a2 => ?_) (hl _ ?_))
      · have : j = 0 := eqN ((hp (by omega)).symm.trans a2) (by omega) (by decide)
        exact hA ⟨hq9, a1, this, by rw [← m41]; exact a3⟩
      · rcases hst with ⟨-, x, -⟩ | ⟨-, -, x, -⟩
        · exact hBc ⟨hq9, a1, eqN (x.symm.trans a2) (by omega) (by decide)⟩
        · rw [x] at a2
          exact absurd a2 (by decide)
      · exact ⟨fun g => gF (h28 (eqN g (by omega) (by decide))) w, fun _ => w⟩
    · rw [if_neg hq9] at m36
      exact ms_leave m36 m26 (by omega) x21 ha60 (fun K w => by rw [hk]; exact hl K w)
  by_cases h25 : k' = 25 ∧ j = 1
  · -- an entered call
    obtain ⟨rfl, rfl⟩ := h25
    rw [if_pos ⟨rfl, rfl⟩] at hcl
    obtain ⟨cl', rfl⟩ : ∃ c', cl = c' + 1 := ⟨cl - 1, by omega⟩
    have hp1 : sI μ 22 n = 1 := hp (by omega)
    rw [if_neg (by omega)]
    refine cl_25 c9 (by omega) hB.2.2.2.2.2.2.2.1.2.2.1 ?_
    refine kk _ (wI (wI μ 0 26 (nI n)) 0 47 (nI cl')) (hmodel _ (fun K w => by rw [hp1]; exact m_leave_25 hB.2.2.2.2.2.2.2.1.2.2.2.1 w) (fun g => absurd g (by decide))) ?_
    obtain ⟨b1, b2, b3, b4, b5, b6, b7, ⟨d1, d2, d3, d4, d5, d6, d7, d8⟩, b9, b10⟩ := hB
    exact popF (cl := cl') (s := s) (q := q) (φ := φ) (fl := fl) ⟨b1, b2, b3, b4, b5, b6, b7, ⟨d1, d2, rfl, rfl, d5, d6, d7, d8⟩, b9, b10⟩ hRA hs ⟨by omega, by omega, by omega, by omega, by omega, g6, g7, by omega, g9, g10, g11⟩ hWn (⟨by omega, by have := hcl0.2; have := cnt_up (P := isCp σ μ) n; omega⟩ : Cn cl' ch s (17 * n) σ μ n) q1 q12 hf1 hf2 c3 (by omega) m45 rfl m36 m41 m42 m43
  by_cases h28 : k' = 28 ∧ j = 1
  · -- a later that was being worked
    obtain ⟨rfl, rfl⟩ := h28
    rw [if_neg (by omega), Nat.add_zero] at hcl
    have hcl : Cn cl ch s (17 * n) σ μ n := (hcl0.down hcl).w (by omega)
    have hp1 : sI μ 22 n = 1 := hp (by omega)
    obtain ⟨t, ht, ht7, tv, tn⟩ : ∃ q, q < th ∧ so q = 7 ∧ sL σ 25 (3 * n) = pk 7 (nI (dl q)) ∧ sI μ 25 n = nI q := by
      rcases hst with ⟨-, -, -, -, x⟩ | ⟨x, -⟩
      · exact x rfl (by omega)
      · omega
    have hd : dl t < lm := (hB.1.1 t ht).2.2.2.2 ht7
    rw [if_neg (by omega)]
    refine cl_28 c9 (by omega) tv hB.2.2.2.2.2.2.1.2.2.2.2.2.1 (by omega) hd c3 (by omega) (by omega) (fun hq9 => ?_) (fun hq9 => ?_)
    · rw [if_pos hq9] at m36 hφ
      have hBl := Bs.lfail (σ := σ) (μ := wI μ 0 26 (nI n)) (c := sI σ 10 4) hB ht ht7 (e := q) (by omega) (by omega)
      refine kk _ (wI (wI (wI (wI μ 0 26 (nI n)) 10 t 3) 11 t (nI q)) 12 t (sI σ 10 4)) (ms_fail m36 (neN (n + 1) 0 m26 rfl (by omega) (by omega) (by decide)) (fun K w => m_upF_pop m26 (by omega) x21 ha60 hk hk32 (fun a1 => absurd a1 (by decide)) (fun a1 => absurd a1 (by decide)) ?_)) ?_
      · rw [hp1]
        refine m_leave_28 (t := t) (by omega) tn (by omega) (gT rfl (gT rfl ?_))
        have e25 : sI (wI (wI μ 0 26 (nI n)) 10 t 0) 25 n = nI t := tn
        rw [e25, nI_clamp (by omega), wI_wI]
        refine ⟨vp_in_nI (by omega) (by decide), ?_⟩
        have e41 : sI (wI (wI μ 0 26 (nI n)) 10 t 0) 0 41 = nI q := m41
        have e42 : sI (wI (wI μ 0 26 (nI n)) 10 t 0) 0 42 = sI σ 10 4 := m42
        rw [e41, e42]
        exact w
      · exact popF (s := s) (q := q) (φ := φ) (cl := cl) (fl := fl) hBl hRA hs hbdn hWn hcl q1 q12 hf1 hf2 c3 (by rw [if_pos hq9]; omega) m45 rfl (by rw [if_pos hq9]; exact m36) m41 m42 m43
    · rw [if_neg hq9] at m36 hφ
      have hBl := Bs.lset (σ := σ) (μ := wI μ 0 26 (nI n)) (y := 0) hB ht ht7 (Or.inl rfl)
      refine kk _ (wI (wI μ 0 26 (nI n)) 10 t 0) (ms_leave m36 m26 (by omega) x21 ha60 (fun K w => by rw [hk, hp1]; exact m_leave_28 (t := t) (by omega) tn (by omega) w)) ?_
      exact popF (s := s) (q := q) (φ := φ) (cl := cl) (fl := fl) hBl hRA hs hbdn hWn hcl q1 q12 hf1 hf2 c3 (by rw [if_neg hq9]; omega) m45 rfl (by rw [if_neg hq9]; exact m36) m41 m42 m43
  rw [if_neg h25, Nat.add_zero] at hcl
  have hcl : Cn cl ch s (17 * n) σ μ n := (hcl0.down hcl).w (by omega)
  by_cases h29 : k' = 29
  · -- an attempt
    subst h29
    obtain ⟨σ', μ', ch', u1, u2, u3, u4, u5, u6, u7⟩ := undo_ok (so := so) (dl := dl) (ln := ln) (th := th) (us := us) (lm := lm) (mk := mk) (tl := tl) (cl := cl) (fl := fl) (na := na) (lim := lim) m hm g11 (by omega) (by omega) ch σ (wI μ 0 26 (nI n)) (by omega) hB
    refine cl_29 _ c9 (by omega) ?_
    rw [h26]
    refine u2 _ (c_pop (t := n) (by rw [u5 21 9 (by decide)]; exact c9) (by omega) ?_)
    refine kk _ μ' (hmodel _ (fun K w => m_leave_29 (by omega) (by rw [show sI (wI μ 0 26 (nI n)) 28 n = nI m from x28]; exact u3 K w)) (fun g => absurd g (by decide))) ?_
    have M0 : ∀ jj, jj ≠ 20 → sI μ' 0 jj = sI (wI μ 0 26 (nI n)) 0 jj := fun jj h => u7 0 jj (by decide) (by decide) (by decide) (by decide) (Or.inr h)
    have MO : ∀ o jj, o ≠ 6 → o ≠ 7 → o ≠ 15 → o ≠ 16 → o ≠ 0 → sI μ' o jj = sI μ o jj := fun o jj a1 a2 a3 a4 a5 => by rw [u7 o jj a1 a2 a3 a4 (Or.inl a5), i_o a5]
    refine popF (s := s) (q := q) (φ := φ) (cl := cl) (fl := fl) (ch := ch') u4 (hRA.fr (fun o jj a1 a2 => u5 o jj (by omega)) (by rw [M0 0 (by decide)]; rfl) (fun o jj a1 a2 => MO o jj (by omega) (by omega) (by omega) (by omega) (by omega))) (by rw [u5 10 1 (by decide)]; exact hs) ⟨by omega, by omega, by omega, by omega, by omega, g6, g7, g8, g9, g10, g11⟩ (fun i hi => (hWn i hi).frame (fun o a1 a2 => u5 o i (by omega)) (fun w hw => u6 25 _ (by decide)) (fun o a1 a2 => MO o i (by omega) (by omega) (by omega) (by omega) (by omega)) (fun x => MO 1 x (by decide) (by decide) (by decide) (by decide) (by decide)) (Nat.le_refl _) (fun _ _ => rfl) (fun _ _ => rfl) (Nat.le_refl _)) ?_ q1 q12 hf1 hf2 (by rw [u5 10 3 (by decide)]; exact c3) (by omega) (by rw [M0 45 (by decide)]; exact m45) (by rw [M0 26 (by decide)]; rfl) (by rw [M0 36 (by decide)]; exact m36) (by rw [M0 41 (by decide)]; exact m41) (by rw [M0 42 (by decide), u5 10 4 (by decide)]; exact m42) (by rw [M0 43 (by decide), u5 10 5 (by decide)]; exact m43)
    exact hcl.fr (by omega) (fun i hi => u5 22 i (by decide)) (fun i hi => u5 24 i (by decide)) (fun x => MO 1 x (by decide) (by decide) (by decide) (by decide) (by decide))
  · -- all else
    have hj01 : k' = 25 ∨ k' = 28 → j = 0 := by
      intro g
      have : j < 2 := by
        rcases g with rfl | rfl
        · exact hcap
        · exact hcap
      rcases g with g | g
      · exact Nat.lt_one_iff.mp (Nat.lt_of_le_of_ne (by omega) (fun e => h25 ⟨g, e⟩))
      · exact Nat.lt_one_iff.mp (Nat.lt_of_le_of_ne (by omega) (fun e => h28 ⟨g, e⟩))
    refine cl_pop c9 (by omega) hk32 _ (fun g => ?_) (fun g => ?_) h29 ?_
    · rw [if_pos (hj01 (Or.inl g.1))] at g
      exact absurd g.2 (by decide)
    · rw [if_pos (hj01 (Or.inr g.1))] at g
      exact absurd g.2 (by decide)
    · refine kk _ (wI μ 0 26 (nI n)) (hmodel _ (fun K w => m_leave_none hk32 (fun g => ?_) (fun g => ?_) h29 w) (fun g g2 => ?_)) ?_
      · have e := hj01 (Or.inl g.1)
        rw [hp (by omega), e] at g
        exact absurd g.2 (by decide)
      · have e := hj01 (Or.inr g.1)
        rw [hp (by omega), e] at g
        exact absurd g.2 (by decide)
      · have e := hj01 (Or.inr g)
        rw [hp (by omega), e] at g2
        exact absurd g2 (by decide)
      · exact popF (s := s) (q := q) (φ := φ) (cl := cl) (fl := fl) hB hRA hs hbdn hWn hcl q1 q12 hf1 hf2 c3 (by omega) m45 rfl m36 m41 m42 m43
