theorem leaf_is {k : Nat} (h : leaf k = true) (hk : k < 32) : k = 0 ∨ k = 1 ∨ k = 2 ∨ k = 27 ∨ k = 30 := by
  have : ∀ k, k < 32 → leaf k = true → k = 0 ∨ k = 1 ∨ k = 2 ∨ k = 27 ∨ k = 30 := by decide
  exact this k hk h
theorem simL {φ : Nat} {σ μ : Sg} {Q : Sg → Prop} (h : StL (φ + 1) σ μ) (kk : ∀ σ' μ', MR μ μ' → Rr φ σ' μ' → Q σ') : TC σ Q := by
  obtain ⟨so, dl, ln, th, us, lm, mk, ch, tl, cl, fl, na, s, lim, n, a, f, k, ⟨hB, hbd, hRA, hs, hW⟩, hcl, hfl, ⟨c8, c9, c3, c4, c5⟩, hφ, ha, hf, hlf, hk, hk32, h22, h23, h24, hs1, m45, m26, m36, m37, m38⟩ := h
  obtain ⟨s', rfl⟩ : ∃ s', s = s' + 1 := ⟨s - 1, by omega⟩
  rw [show s' + 1 - 1 = s' by omega] at m45
  rw [show n + 1 - 1 = n by omega] at c9
  have hB0 := hB
  obtain ⟨b1, b2, b3, b4, b5, b6, ⟨e1, e2, e3, e4, e5, e6, e7⟩, ⟨d1, d2, d3, d4, d5, d6, d7, d8⟩, b9, b10⟩ := hB0
  have hbd0 := hbd
  obtain ⟨g1, g2, g3, g4, g5, g6, g7, g8, g9, g10, g11⟩ := hbd0
  have hcn := cnt_le (P := isCl σ μ) n
  obtain ⟨hz, hmz, hna, hacts⟩ := hRA
  have ha60 : a < 60 := by omega
  obtain ⟨k', hk', hk1, r0, r1, r2, r3, r4, r5, r6, r7, r8, r9, r10, r11⟩ := hacts a ha
  have ek : k' = k := eqN (hk1.symm.trans hk) (by omega) (by omega)
  subst ek
  have hah : sI σ 4 a = nI 0 := by
    rw [r4]
    rcases leaf_is hlf hk32 with rfl | rfl | rfl | rfl | rfl <;> rfl
  have hRA : RA na σ μ := ⟨hz, hmz, hna, hacts⟩
  have hbd' : ∀ t : Int32, Bd th us lm mk ch tl cl (s' + 1) lim n ∧ Xv t us mk cl (s' + 1) n := fun t => ⟨⟨by omega, by omega, by omega, by omega, by omega, g6, g7, g8, g9, g10, g11⟩, Xv.mk g1 (by omega)⟩
  have hcg : Cn cl ch (s' + 1) (17 * n + 15) σ μ n := hcl.w (by omega)
  have hc1 : cl = cnt (isCl σ μ) n := hcl.1
  refine tc_at (j := 0) (r := 0) c3 hz hna c9 (by omega) h22 ha hah h24 (by omega) r0 e1 (by omega) (fun lx ly _ _ Q' q => of_none (by rcases leaf_is hlf hk32 with rfl | rfl | rfl | rfl | rfl <;> simp) q) (fun _ => ?_) (fun q => absurd q (by decide)) (fun q => absurd rfl q)
  rcases leaf_is hlf hk32 with rfl | rfl | rfl | rfl | rfl
  · -- a whole
    refine wk_plain hz hna c9 (by omega) h22 ha r0 (by omega) (by omega) (by omega) (by omega) (by omega) (by omega) (by omega) (by omega) (by omega) (by omega) (by omega) (wp_lo hz hna c9 (by omega) h22 ha (by omega) ?_)
    unfold wX6_reckon
    refine c_number (c_number ⟨fun _ => c_whole ?_, ?_⟩)
    · refine give_ok (μ := mVal (wI μ 0 45 (nI (s' + 1))) 0 (sI μ 2 a)) (φ := φ) hB hRA hs (hbd' _) hW hcg hfl c9 (by omega) c3 c4 c5 (by omega) rfl m26 rfl ?_ (fun σ' hr => kk _ _ (ms_begin m36 (fun K q => m_begin_0 m45 d8 (by omega) g10 m37 ha60 hk q)) hr)
      rw [r1]
      exact V.w _
    · repeat refine gS (by decide) ?_
      intros; contradiction
  · -- a slot
    obtain ⟨z, hz8, hzv⟩ := r8 (Or.inl rfl)
    refine wk_plain hz hna c9 (by omega) h22 ha r0 (by omega) (by omega) (by omega) (by omega) (by omega) (by omega) (by omega) (by omega) (by omega) (by omega) (by omega) (wp_lo hz hna c9 (by omega) h22 ha (by omega) ?_)
    unfold wX6_reckon
    refine c_number (c_number (gS (by decide) ⟨fun _ => c_frame c9 (by omega) ?_, ?_⟩))
    · rw [h23, r1]
      refine c_fread e4 (by omega) hf hzv hz8 ?_
      refine give_ok (μ := mVal (wI μ 0 45 (nI (s' + 1))) (sI μ 13 (8 * f + z)) (sI μ 14 (8 * f + z))) (φ := φ) hB hRA hs (hbd' _) hW hcg hfl c9 (by omega) c3 c4 c5 (by omega) rfl m26 rfl ?_ (fun σ' hr => kk _ _ (ms_begin m36 (fun K q => m_begin_1 m45 d8 (by omega) g10 m37 ha60 hk m38 (by omega) hzv hz8 q)) hr)
      exact b4 (8 * f + z) (by omega)
    · repeat refine gS (by decide) ?_
      intros; contradiction
  · -- nothing
    refine wk_plain hz hna c9 (by omega) h22 ha r0 (by omega) (by omega) (by omega) (by omega) (by omega) (by omega) (by omega) (by omega) (by omega) (by omega) (by omega) (wp_lo hz hna c9 (by omega) h22 ha (by omega) ?_)
    unfold wX6_reckon
    refine c_number (c_number (gS (by decide) (gS (by decide) ⟨fun _ => ?_, ?_⟩)))
    · refine give_ok (μ := mVal (wI μ 0 45 (nI (s' + 1))) 1 0) (φ := φ) hB hRA hs (hbd' _) hW hcg hfl c9 (by omega) c3 c4 c5 (by omega) rfl m26 rfl ?_ (fun σ' hr => kk _ _ (ms_begin m36 (fun K q => m_begin_2 m45 d8 (by omega) g10 m37 ha60 hk q)) hr)
      rw [pk_none]
      exact V.no
    · repeat refine gS (by decide) ?_
      intros; contradiction
  · -- a later
    obtain ⟨p1, y, hy, p2⟩ := r5 (by decide)
    refine wk_sel hz hna c9 (by omega) h22 ha r0 ?_ (by omega)
    refine ⟨fun q => absurd q (by decide), fun q => absurd q (by decide), fun q => absurd q (by decide), fun q => absurd q (by decide), fun q => absurd q (by decide), fun q => absurd q (by decide), fun q => absurd q (by decide), fun _ => ?_, fun q => absurd q (by decide), fun q => absurd q (by decide)⟩
    unfold wX6_delay
    refine c_act c9 (by omega) ?_
    rw [h22]
    refine c_part hz hna ha (w := 0) rfl (by omega) (c_frame c9 (by omega) ?_)
    rw [Nat.add_zero, p1, p2, h23]
    refine c_ladd e6 (by omega) ?_
    have p2' : sI μ 2 a = nI y := p2
    refine give_ok (μ := mVal (mLater (wI μ 0 45 (nI (s' + 1))) th (nI y) (nI f)) 7 (nI th)) (φ := φ) (th := th + 1) (lm := lm + 1) (so := up1 so th 7) (dl := up1 dl th lm) (ln := up1 ln th 0) (s := s' + 1) (Bs.later (μ := wI μ 0 45 (nI (s' + 1))) hB g11 (by omega) hf) ?_ hs ⟨⟨by omega, by omega, by omega, by omega, by omega, g6, g7, g8, g9, g10, g11⟩, Xv.mk g1 (by omega)⟩ (fun i hi => ?_) ?_ hfl c9 (by omega) c3 c4 c5 (by omega) ?_ ?_ rfl ?_ (fun σ' hr => kk _ _ (ms_begin m36 (fun K q => m_begin_27 m45 d8 (by omega) g10 m37 ha60 hk m38 e7 (by omega) (by rw [p2']; exact q))) hr)
    · refine ⟨hz, ?_, hna, ?_⟩
      · show sI (mLater (wI μ 0 45 (nI (s' + 1))) th (nI y) (nI f)) 0 0 = nI na
        rw [mLater_I _ _ _ _ _ _ (Or.inr (by decide)) (Or.inl (by decide)) (Or.inl (by decide)) (Or.inl (by decide)) (Or.inl (by decide))]
        exact hmz
      · have em : ∀ o x : Nat, o = 1 ∨ o = 2 ∨ o = 3 ∨ o = 4 → sI (mVal (mLater (wI μ 0 45 (nI (s' + 1))) th (nI y) (nI f)) 7 (nI th)) o x = sI μ o x := by
          intro o x ho
          unfold mVal
          rw [i_o (by omega), i_o (by omega), i_o (by omega), mLater_I _ _ _ _ _ _ (Or.inl (by omega)) (Or.inl (by omega)) (Or.inl (by omega)) (Or.inl (by omega)) (Or.inl (by omega)), i_o (by omega)]
        have eg : ∀ p x : Nat, arg (mVal (mLater (wI μ 0 45 (nI (s' + 1))) th (nI y) (nI f)) 7 (nI th)) p x = arg μ p x := by
          intro p x
          unfold arg
          rw [em 2 x (by omega), em 3 x (by omega), em 4 x (by omega)]
        intro x hx
        simp only [eg, em 1 x (by omega), em 2 x (by omega), em 3 x (by omega), em 4 x (by omega)]
        exact hacts x hx
    · refine (hW i hi).frame (fun o h1 h2 => ?_) (fun w hw => rfl) (fun o h1 h2 => ?_) (fun x => ?_) (by omega) (fun _ hk => up1_lt hk) (fun _ hk => up1_lt hk) (Nat.le_refl _)
      · simp only [cLater, sI_wI]
        rw [if_neg (by omega), if_neg (by omega), if_neg (by omega), if_neg (by omega)]
      · unfold mVal
        rw [i_o (by omega), i_o (by omega), i_o (by omega), mLater_I _ _ _ _ _ _ (Or.inl (by omega)) (Or.inl (by omega)) (Or.inl (by omega)) (Or.inl (by omega)) (Or.inl (by omega)), i_o (by omega)]
      · unfold mVal
        rw [i_o (by omega), i_o (by omega), i_o (by omega), mLater_I _ _ _ _ _ _ (Or.inl (by omega)) (Or.inl (by omega)) (Or.inl (by omega)) (Or.inl (by omega)) (Or.inl (by omega)), i_o (by omega)]
    · refine hcg.fr (by omega) (fun i hi => ?_) (fun i hi => ?_) (fun x => ?_)
      · simp [cLater, sI_wI]
      · simp [cLater, sI_wI]
      · unfold mVal
        rw [i_o (by omega), i_o (by omega), i_o (by omega), mLater_I _ _ _ _ _ _ (Or.inl (by omega)) (Or.inl (by omega)) (Or.inl (by omega)) (Or.inl (by omega)) (Or.inl (by omega)), i_o (by omega)]
    · show sI (mLater (wI μ 0 45 (nI (s' + 1))) th (nI y) (nI f)) 0 45 = _
      rw [mLater_I _ _ _ _ _ _ (Or.inr (by decide)) (Or.inl (by decide)) (Or.inl (by decide)) (Or.inl (by decide)) (Or.inl (by decide)), i_e]
    · show sI (mLater (wI μ 0 45 (nI (s' + 1))) th (nI y) (nI f)) 0 26 = _
      rw [mLater_I _ _ _ _ _ _ (Or.inr (by decide)) (Or.inl (by decide)) (Or.inl (by decide)) (Or.inl (by decide)) (Or.inl (by decide)), i_j (by decide)]
      exact m26
    · refine Or.inr (Or.inr ⟨th, by omega, by rw [up1_e]; omega, by rw [up1_e]; omega, by rw [up1_e]; rfl, rfl, by rw [up1_e, up1_e]; rfl⟩)
  · -- a box
    obtain ⟨z, hz8, hzv⟩ := r8 (Or.inr (Or.inl rfl))
    refine wk_plain hz hna c9 (by omega) h22 ha r0 (by omega) (by omega) (by omega) (by omega) (by omega) (by omega) (by omega) (by omega) (by omega) (by omega) (by omega) (wp_hi hz hna c9 (by omega) h22 ha (by omega) (by omega) ?_)
    unfold wX6_change
    repeat refine gS (by decide) ?_
    refine ⟨fun _ => ?_, ?_⟩
    · rw [r1]
      refine c_read hzv e1 (by omega) (by omega) ?_
      refine give_ok (μ := mVal (wI μ 0 45 (nI (s' + 1))) (sI μ 15 z) (sI μ 16 z)) (φ := φ) hB hRA hs (hbd' _) hW hcg hfl c9 (by omega) c3 c4 c5 (by omega) rfl m26 rfl ?_ (fun σ' hr => kk _ _ (ms_begin m36 (fun K q => m_begin_30 m45 d8 (by omega) g10 m37 ha60 hk hzv hz8 q)) hr)
      have := (b2 z (Or.inl hz8)).1
      unfold cad mT mN at this
      rw [if_pos hz8, if_pos hz8, if_pos hz8] at this
      exact this
    · repeat refine gS (by decide) ?_
      intros; contradiction
