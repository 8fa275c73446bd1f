/-- a part of the topmost act, at n, begins; the act waits there at the stage j -/
theorem part_ok {so dl ln : Nat → Nat} {th us lm mk ch tl cl fl na s lim n a f k j m φ y w : Nat} {wx : Int32} {σ μ : Sg} {Q : Sg → Prop} (hB : Bs so dl ln th us lm mk ch tl cl fl na lim σ μ) (hRA : RA na σ μ) (hs : sI σ 10 1 = nI s) (hbd : Bd th us lm mk ch tl cl s lim (n + 1)) (hW : ∀ i, i < n → Ent so dl th na mk σ μ i) (hE : EntP so dl th na mk σ μ n a f k j m) (hcl : Cn cl ch s (17 * (n + 1)) σ μ (n + 1)) (hfl : fl ≤ 20) (hC : Cc (n + 1) 0 0 (-1) σ) (hφ : 4 * (lim - s) + 2 * (n + 1) + 1 ≤ φ + 1) (hw : wx = nI w) (hw3 : w < 3) (hp : sI σ 3 (3 * a + w) = nI y) (hy : y < na) (m45 : sI μ 0 45 = nI s) (m26 : sI μ 0 26 = nI (n + 1)) (m36 : sI μ 0 36 = 0) (m37 : sI μ 0 37 = nI y) (m38 : sI μ 0 38 = nI f) (kk : ∀ σ' μ', MR μ μ' → Rr φ σ' μ' → Q σ') : wX6_beginPart σ wx Q := by
  have hn : n < 200 := by
    obtain ⟨g1, g2, g3, g4, g5, g6, g7, g8, g9, g10, g11⟩ := hbd
    omega
  have c9 : sI σ 21 9 = nI n := by
    have := hC.2.1
    rwa [show n + 1 - 1 = n by omega] at this
  unfold wX6_beginPart
  refine c_act c9 hn ?_
  rw [hE.2.2.2.2.2.1]
  refine c_part hRA.1 hRA.2.2.1 hE.1 hw hw3 (c_frame c9 hn ?_)
  rw [hp, hE.2.2.2.2.2.2.2.1]
  refine begin_ok (N := n + 1) hB hRA hs hbd (fun i hi => ?_) hcl hfl hC hφ hy hE.2.1 m45 m26 m36 m37 m38 kk
  by_cases e : i = n
  · subst e
    exact ⟨a, f, k, j, m, hE⟩
  · exact hW i (by omega)
theorem simC {φ : Nat} {σ μ : Sg} {Q : Sg → Prop} (h : StC (φ + 1) σ μ) (kk : ∀ σ' μ', MR μ μ' → Rr φ σ' μ' → Q σ') : TC σ Q := by
  obtain ⟨so, dl, ln, th, us, lm, mk, ch, tl, cl, fl, na, s, lim, n, a, f, k, j, m, ⟨hB, hbd, hRA, hs, hW⟩, hE, hcl, hfl, hC, hφ, hj, m45, m26, m36, m37, m38⟩ := h
  have hC0 := hC
  obtain ⟨c8, c9, c3, c4, c5⟩ := hC0
  rw [show n + 1 - 1 = n by omega] at c9
  have hbd0 := hbd
  obtain ⟨g1, g2, g3, g4, g5, g6, g7, g8, g9, g10, g11⟩ := hbd0
  obtain ⟨ha, hf, hk32, hcap, -, h22, -, h23, -, hk, -, -, h24, -⟩ := id hE
  obtain ⟨k', hk', hk1, r0, r1, r2, r3, r4, r5, r6, r7, r8, r9, r10, r11⟩ := hRA.2.2.2 a ha
  have ek : k' = k := eqN (hk1.symm.trans hk) (by omega) (by omega)
  subst ek
  have e1 : sI σ 6 3 = nI us := hB.2.2.2.2.2.2.1.1
  rcases hj with rfl | ⟨rfl, rfl, hh⟩
  · have key : ∀ k, k < 32 → 0 < cap k → 1 ≤ ahd k ∧ ahd k < 100 ∧ 1 ≤ nps k := by decide
    obtain ⟨q1, q2, q3⟩ := key k' hk32 hcap
    obtain ⟨p1, y, hy, p2⟩ := r5 q3
    refine tc_part c3 hRA.1 hRA.2.2.1 c9 (by omega) h22 ha r4 h24 q2 (by omega) ?_
    refine part_ok (w := 0) hB hRA hs hbd hW hE ?_ hfl hC hφ rfl (by omega) (by rw [Nat.add_zero, p1, p2]) (by omega) m45 m26 m36 (by rw [m37, if_pos rfl, p2]) m38 kk
    exact hcl.push hE hRA.2.2.1 (by omega) (by rw [if_neg (by omega)]; omega)
  · obtain ⟨p1, y, hy, p2⟩ := r6 (by decide)
    refine tc_at (j := 1) (r := 0) c3 hRA.1 hRA.2.2.1 c9 (by omega) h22 ha r4 h24 (by omega) r0 e1 (by omega) (fun lx ly _ _ Q' q => of_none (by simp) q) (fun _ => ?_) (fun q => absurd q (by decide)) (fun q => absurd rfl q)
    refine wk_sel hRA.1 hRA.2.2.1 c9 (by omega) h22 ha r0 ?_ (by omega)
    refine ⟨fun q => absurd q (by decide), fun q => absurd q (by decide), fun q => absurd q (by decide), fun _ => ?_, fun q => absurd q (by decide), fun q => absurd q (by decide), fun q => absurd q (by decide), fun q => absurd q (by decide), fun q => absurd q (by decide), fun q => absurd q (by decide)⟩
    unfold wX6_doAlways
    refine c_stage c9 (by omega) (gT h24 ?_)
    refine part_ok (w := 1) hB hRA hs hbd hW hE ?_ hfl hC hφ rfl (by omega) (by rw [p1, p2]) (by omega) m45 m26 m36 (by rw [m37, if_neg (by omega)]; exact p2) m38 kk
    exact hcl.push hE hRA.2.2.1 (by omega) (by rw [if_neg (by omega)]; omega)
