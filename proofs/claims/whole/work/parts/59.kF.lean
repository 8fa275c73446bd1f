theorem sv28_0 {so dl ln : Nat → Nat} {th us lm mk ch tl cl fl na s lim n a f m φ : Nat} {σ μ : Sg} {Q : Sg → Prop} (h : Vx so dl ln th us lm mk ch tl cl fl na s lim n a f 28 0 m φ σ μ) (kk : ∀ σ' μ', MR μ μ' → Rr φ σ' μ' → Q σ') : TC σ Q := by
  obtain ⟨⟨hB, hbd, hRA, hs, hW⟩, hE, h24, hcl, hfl, hC, hφ, m45, m26, m36, hV, hX⟩ := h
  have hC0 := hC
  obtain ⟨c8, c9, c3, c4, c5⟩ := hC0
  rw [show n + 1 - 1 = n by omega] at c9
  have hbd0 := hbd
  obtain ⟨g1, g2, g3, g4, g5, g6, g7, g8, g9, g10, g11⟩ := hbd0
  obtain ⟨ha, hf, hk32, hcap, hm, h22, x21, h23, x23, hk, h26, x28, -, hst⟩ := id hE
  have h22 : sI σ 22 n = nI a := h22
  have h23 : sI σ 23 n = nI f := h23
  have h26 : sI σ 26 n = nI m := h26
  have ha60 : a < 60 := Nat.lt_of_lt_of_le ha hRA.2.2.1
  obtain ⟨k', hk', hk1, r0, r1, r2, r3, r4, r5, r6, r7, r8, r9, r10, r11⟩ := hRA.2.2.2 a ha
  have ek : 28 = k' := eqN (hk.symm.trans hk1) (by omega) (by omega)
  subst ek
  have e1 : sI σ 6 3 = nI us := hB.2.2.2.2.2.2.1.1
  have e5 : sI μ 0 44 = nI fl := hB.2.2.2.2.2.2.2.1.2.2.2.2.2.1
  have hn : n < 200 := by omega
  have hcn := cnt_le (P := isCl σ μ) n
  have et : sI μ 0 26 - (1 : Int32) = nI n := subN (n + 1) 1 m26 rfl (by omega)
  have hvn : vp_in (nI n) 220 := vp_in_nI (by omega) (by decide)
  have hva : vp_in (nI a) 60 := vp_in_nI ha60 (by decide)
  have en : (nI n).toNatClampNeg = n := nI_clamp (by omega)
  have ea : (nI a).toNatClampNeg = a := nI_clamp (by omega)
  have ht0 : ¬ sI μ 0 26 = 0 := neN (n + 1) 0 m26 rfl (by omega) (by omega) (by decide)
  have hcl : Cn cl ch s (17 * (n + 1) + 15) σ μ n := hcl.no (by decide)
  have hc1 : cl = cnt (isCl σ μ) n := hcl.1
  have hc2 := hcl.2
  have hbdn : Bd th us lm mk ch tl cl s lim n := ⟨by omega, by omega, by omega, by omega, by omega, g6, g7, g8, g9, g10, g11⟩
  have hbdg : ∀ t : Int32, Bd th us lm mk ch tl cl s lim n ∧ Xv t us mk cl s n := fun t => ⟨hbdn, Xv.mk g1 (by omega)⟩
  obtain ⟨h27, p22, d1, d2, d3⟩ : sI σ 27 n = 0 ∧ sI μ 22 n = nI 0 ∧ (1 ≤ 0 → kpX 28 = true → V so dl th (sL σ 25 (3 * n)) (sI μ 24 n) (sI μ 25 n)) ∧ (2 ≤ 0 → V so dl th (sL σ 25 (3 * n + 1)) (sI μ 26 n) (sI μ 27 n)) ∧ (28 = 28 → 1 ≤ 0 → ∃ q, q < th ∧ so q = 7 ∧ sL σ 25 (3 * n) = pk 7 (nI (dl q)) ∧ sI μ 25 n = nI q) := by
    rcases hst with h | h
    · exact h
    · exact absurd h.1 (by decide)
  rw [Nat.add_zero] at hV
  have eS : srt (sL σ 25 (3 * n)) = sI μ 0 39 := hV.srt
  have c9' : sI σ 21 9 = nI (n + 1 - 1) := c9
  by_cases h7 : sI μ 0 39 = 7
  · obtain ⟨t0, a1, a2, a3, a4, a5, a6, a7⟩ := hV.thing (by rw [h7]; decide) (by rw [h7]; decide)
    have so7 : so t0 = 7 := V.sort_of (so := so) (k := t0) (j := 7) (h7.symm.trans a4) (by omega) a3
    have so7' : nI (so t0) = 7 := by rw [so7]; rfl
    have e6 : sI σ 14 6 = nI lm := hB.2.2.2.2.2.2.1.2.2.2.2.2.1
    have dlq : dl t0 < lm := (hB.1.1 t0 a1).2.2.2.2 so7
    have hvt : vp_in (nI t0) 220 := vp_in_nI (by omega) (by decide)
    obtain ⟨l1, l2, l3, ⟨act, hact, l4⟩, ⟨fr, hfr, l5⟩, l6⟩ := hB.2.2.2.2.1 t0 a1 so7
    refine sv_work (j := 1) c3 hRA c9 hn h22 ha r4 h24 (by omega) r0 hB (by omega) (fun lx ly hx _ Q' q => of_28 true ⟨fun _ => by rw [eS]; exact h7, fun _ => rfl⟩ q) ?_
    refine wk_sel hRA.1 hRA.2.2.1 c9 hn h22 ha r0 ?_ (by omega)
    refine ⟨fun q => absurd q (by decide), fun q => absurd q (by decide), fun q => absurd q (by decide), fun q => absurd q (by decide), fun q => absurd q (by decide), fun q => absurd q (by decide), fun q => absurd q (by decide), fun q => absurd q (by decide), fun _ => ?_, fun q => absurd q (by decide)⟩
    refine c_value (w := 0) c9 hn rfl (by omega) (c_number ?_)
    rw [Nat.add_zero, a6]
    unfold wX6_force wX6_workLater
    refine c_stage c9 hn (gT h24 (c_lstate e6 (by omega) dlq ?_))
    rw [l3]
    rcases l6 with s0 | s1 | ⟨s2, sv⟩ | ⟨s3, y1, y2, e, he1, he8, y3⟩
    · rw [s0]
      refine gS (by decide) (gS (by decide) (gS (by decide) (fun _ _ _ => ?_)))
      refine c_lset e6 (by omega) dlq ?_
      refine c_lact (σ := wI σ 17 (dl t0) 1) e6 (by omega) dlq (c_lframe (σ := wI σ 17 (dl t0) 1) e6 (by omega) dlq ?_)
      have f1 : sI (wI σ 17 (dl t0) 1) 15 (dl t0) = nI act := l1.trans l4
      have f2 : sI (wI σ 17 (dl t0) 1) 16 (dl t0) = nI fr := l2.trans l5
      rw [f1, f2]
      have fc : Fc σ (wI σ 17 (dl t0) 1) n := Fc.rf.w1 (Or.inr (Or.inr (Or.inl (by decide))))
      have fm : Fm μ (mStart (wI (wI (wI μ 10 t0 1) 25 n (nI t0)) 22 n 1) (nI act) (nI fr)) n := Fm.start ((Fm.w1 (Fm.w1 Fm.rf (Or.inr (Or.inl (by decide)))) (Or.inr (Or.inr ⟨by decide, Nat.le_refl _⟩))).w1 (Or.inr (Or.inr ⟨by decide, Nat.le_refl _⟩)))
      have eE : EntP so dl th na mk (wI σ 17 (dl t0) 1) (mStart (wI (wI (wI μ 10 t0 1) 25 n (nI t0)) 22 n 1) (nI act) (nI fr)) n a f 28 1 m := by
        refine ent_mk (j' := 1) hE (by decide) rfl rfl rfl h27 h24 rfl rfl rfl (fun _ => rfl) ?_ (Nat.le_refl _) (fun _ h => absurd h (by decide)) (fun h => absurd h (by omega)) (fun _ _ => ⟨t0, a1, so7, ?_, ?_⟩)
        · unfold mStart
          rw [i_o (by omega), i_o (by omega), i_o (by omega), i_e]
          rfl
        · rw [so7'] at a7
          exact a7
        · unfold mStart
          rw [i_o (by omega), i_o (by omega), i_o (by omega), i_o (by omega), i_e]
      refine begin_ok (N := n + 1) (μ := mStart (wI (wI (wI μ 10 t0 1) 25 n (nI t0)) 22 n 1) (nI act) (nI fr)) (Bs.lset hB a1 so7 (Or.inr rfl)) (hRA.fr fc.1 fm.1 fm.2.1) hs hbd (fun i hi => ?_) ?_ hfl ⟨c8, c9', c3, c4, c5⟩ (by omega) hact hfr m45 m26 rfl rfl rfl (fun σ' μ' h hr => kk _ _ (MR.tr ?_ h) hr)
      · by_cases e : i = n
        · subst e
          exact ⟨a, f, 28, 1, m, eE⟩
        · exact ents_fr hW fc fm (Nat.le_refl _) (fun _ _ => rfl) (fun _ _ => rfl) (Nat.le_refl _) i (by omega)
      · exact (hcl.ff fc fm).push eE hRA.2.2.1 (by decide) (by rw [if_neg (by decide)]; omega)
      · refine ms_up m36 ht0 (fun K q => m_up m26 (by omega) x21 ha60 x23 hk (by omega) p22 (by omega) (fun _ h => absurd h (by unfold isP2; omega)) (fun h _ => absurd h (by decide)) (fun _ _ => ?_))
        unfold wX11_upOf
        repeat refine gS (by decide) ?_
        intro _ _ _ _ _ _ _ _ _ _ _ _ _ _ _ _ _ _
        unfold wX11_upLater
        repeat refine gS (by decide) ?_
        refine ⟨fun _ => ?_, ?_⟩
        · unfold wX11_upWork
          refine gF (by decide) (gT h7 ?_)
          rw [a5, nI_clamp (by omega)]
          refine ⟨hvt, ?_⟩
          refine gT s0 ?_
          rw [en, l4, l5]
          exact ⟨hvt, hvn, hvn, hvt, hvt, q⟩
        · repeat refine gS (by decide) ?_
          intros; contradiction
    · rw [s1]
      refine ⟨fun _ => ?_, gS (by decide) (gS (by decide) (fun h => absurd rfl h))⟩
      refine fin_fail (e := 8) (μ' := wI μ 0 26 (nI n)) (ch' := ch) hW hRA hs (hcl.w (by omega)) hfl hn hC hφ h22 hB hbdn Fc.rf rfl Fm.rf.top m45 rfl rfl (by omega) (by omega) rfl ?_ kk
      refine ms_up m36 ht0 (fun K q => m_up m26 (by omega) x21 ha60 x23 hk (by omega) p22 (by omega) (fun _ h => absurd h (by unfold isP2; omega)) (fun h _ => absurd h (by decide)) (fun _ _ => ?_))
      unfold wX11_upOf
      repeat refine gS (by decide) ?_
      intro _ _ _ _ _ _ _ _ _ _ _ _ _ _ _ _ _ _
      unfold wX11_upLater
      repeat refine gS (by decide) ?_
      refine ⟨fun _ => ?_, ?_⟩
      · unfold wX11_upWork
        refine gF (by decide) (gT h7 ?_)
        rw [a5, nI_clamp (by omega)]
        refine ⟨hvt, ?_⟩
        rw [et, s1]
        exact gF (by decide) ⟨hvt, gT rfl (m_failBy (μ := wI μ 0 26 (nI n)) e5 hfl q)⟩
      · repeat refine gS (by decide) ?_
        intros; contradiction
    · rw [s2]
      refine gS (by decide) ⟨fun _ => ?_, gS (by decide) (fun _ h => absurd rfl h)⟩
      refine c_lvalue e6 (by omega) dlq ?_
      refine fin_give (μ' := mVal (wI μ 0 26 (nI n)) (sI μ 11 t0) (sI μ 12 t0)) hW hRA hs (hcl.w (by omega)) hfl hn hC hφ hB (hbdg _) Fc.rf Fm.rf.top.val (Nat.le_refl _) (fun _ _ => rfl) (fun _ _ => rfl) (Nat.le_refl _) m45 rfl rfl sv ?_ kk
      refine ms_up m36 ht0 (fun K q => m_up m26 (by omega) x21 ha60 x23 hk (by omega) p22 (by omega) (fun _ h => absurd h (by unfold isP2; omega)) (fun h _ => absurd h (by decide)) (fun _ _ => ?_))
      unfold wX11_upOf
      repeat refine gS (by decide) ?_
      intro _ _ _ _ _ _ _ _ _ _ _ _ _ _ _ _ _ _
      unfold wX11_upLater
      repeat refine gS (by decide) ?_
      refine ⟨fun _ => ?_, ?_⟩
      · unfold wX11_upWork
        refine gF (by decide) (gT h7 ?_)
        rw [a5, nI_clamp (by omega)]
        refine ⟨hvt, ?_⟩
        rw [et, s2]
        exact gF (by decide) ⟨hvt, gF (by decide) ⟨hvt, gT rfl ⟨hvt, hvt, q⟩⟩⟩
      · repeat refine gS (by decide) ?_
        intros; contradiction
    · rw [s3]
      refine gS (by decide) (gS (by decide) ⟨fun _ => ?_, fun _ _ h => absurd rfl h⟩)
      refine c_lfailure e6 (by omega) dlq (c_lcode e6 (by omega) dlq ?_)
      refine fin_fail (e := e) (c := sI σ 19 (dl t0)) (μ' := wI μ 0 26 (nI n)) (ch' := ch) hW hRA hs (hcl.w (by omega)) hfl hn hC hφ h22 hB hbdn Fc.rf rfl Fm.rf.top m45 rfl (y1.trans y3) he1 he8 rfl ?_ kk
      refine ms_up m36 ht0 (fun K q => m_up m26 (by omega) x21 ha60 x23 hk (by omega) p22 (by omega) (fun _ h => absurd h (by unfold isP2; omega)) (fun h _ => absurd h (by decide)) (fun _ _ => ?_))
      unfold wX11_upOf
      repeat refine gS (by decide) ?_
      intro _ _ _ _ _ _ _ _ _ _ _ _ _ _ _ _ _ _
      unfold wX11_upLater
      repeat refine gS (by decide) ?_
      refine ⟨fun _ => ?_, ?_⟩
      · unfold wX11_upWork
        refine gF (by decide) (gT h7 ?_)
        rw [a5, nI_clamp (by omega)]
        refine ⟨hvt, ?_⟩
        rw [et, s3, y3, ← y2]
        exact gF (by decide) ⟨hvt, gF (by decide) ⟨hvt, gF (by decide) ⟨hvt, hvt, m_fail (μ := wI μ 0 26 (nI n)) e5 hfl q⟩⟩⟩
      · repeat refine gS (by decide) ?_
        intros; contradiction
  · obtain ⟨e, he1, he8, he7, hee⟩ := ff_e (sI μ 0 39)
    refine sv_fail (j := 1) (e := e) (r := ff (sI μ 0 39)) (c := ff (sI μ 0 39)) c3 hRA c9 hn h22 ha r4 h24 (by omega) r0 hB hbdn hW hs (hcl.w (by omega)) hfl hC hφ m45 (by omega) hee he1 he8 (fun lx ly _ _ Q' q => of_28 false ⟨fun h => absurd h (by decide), fun h => absurd (by rw [← eS]; exact h) h7⟩ ?_) (if_neg (ff_7 _)) ?_ kk
    · rw [hV.fthn]; exact q
    · rw [← hee]
      refine ms_up m36 ht0 (fun K q => m_up m26 (by omega) x21 ha60 x23 hk (by omega) p22 (by omega) (fun _ h => absurd h (by unfold isP2; omega)) (fun h _ => absurd h (by decide)) (fun _ _ => ?_))
      unfold wX11_upOf
      repeat refine gS (by decide) ?_
      intro _ _ _ _ _ _ _ _ _ _ _ _ _ _ _ _ _ _
      unfold wX11_upLater
      repeat refine gS (by decide) ?_
      refine ⟨fun _ => ?_, ?_⟩
      · unfold wX11_upWork wX11_upWork_87
        refine gF (by decide) (gF h7 ?_)
        rw [et]
        unfold ff at q
        by_cases h1 : sI μ 0 39 = 1
        · rw [if_pos h1] at q
          exact gT h1 (m_failBy (μ := wI μ 0 26 (nI n)) e5 hfl q)
        · rw [if_neg h1] at q
          exact gF h1 (m_failBy (μ := wI μ 0 26 (nI n)) e5 hfl q)
      · repeat refine gS (by decide) ?_
        intros; contradiction
theorem sv28_1 {so dl ln : Nat → Nat} {th us lm mk ch tl cl fl na s lim n a f m φ : Nat} {σ μ : Sg} {Q : Sg → Prop} (h : Vx so dl ln th us lm mk ch tl cl fl na s lim n a f 28 1 m φ σ μ) (kk : ∀ σ' μ', MR μ μ' → Rr φ σ' μ' → Q σ') : TC σ Q := by
  obtain ⟨⟨hB, hbd, hRA, hs, hW⟩, hE, h24, hcl, hfl, hC, hφ, m45, m26, m36, hV, hX⟩ := h
  have hC0 := hC
  obtain ⟨c8, c9, c3, c4, c5⟩ := hC0
  rw [show n + 1 - 1 = n by omega] at c9
  have hbd0 := hbd
  obtain ⟨g1, g2, g3, g4, g5, g6, g7, g8, g9, g10, g11⟩ := hbd0
  obtain ⟨ha, hf, hk32, hcap, hm, h22, x21, h23, x23, hk, h26, x28, -, hst⟩ := id hE
  have h22 : sI σ 22 n = nI a := h22
  have h23 : sI σ 23 n = nI f := h23
  have h26 : sI σ 26 n = nI m := h26
  have ha60 : a < 60 := Nat.lt_of_lt_of_le ha hRA.2.2.1
  obtain ⟨k', hk', hk1, r0, r1, r2, r3, r4, r5, r6, r7, r8, r9, r10, r11⟩ := hRA.2.2.2 a ha
  have ek : 28 = k' := eqN (hk.symm.trans hk1) (by omega) (by omega)
  subst ek
  have e1 : sI σ 6 3 = nI us := hB.2.2.2.2.2.2.1.1
  have e5 : sI μ 0 44 = nI fl := hB.2.2.2.2.2.2.2.1.2.2.2.2.2.1
  have hn : n < 200 := by omega
  have hcn := cnt_le (P := isCl σ μ) n
  have et : sI μ 0 26 - (1 : Int32) = nI n := subN (n + 1) 1 m26 rfl (by omega)
  have hvn : vp_in (nI n) 220 := vp_in_nI (by omega) (by decide)
  have hva : vp_in (nI a) 60 := vp_in_nI ha60 (by decide)
  have en : (nI n).toNatClampNeg = n := nI_clamp (by omega)
  have ea : (nI a).toNatClampNeg = a := nI_clamp (by omega)
  have ht0 : ¬ sI μ 0 26 = 0 := neN (n + 1) 0 m26 rfl (by omega) (by omega) (by decide)
  have hcl : Cn cl ch s (17 * (n + 1) + 15) σ μ n := hcl.no (by decide)
  have hc1 : cl = cnt (isCl σ μ) n := hcl.1
  have hc2 := hcl.2
  have hbdn : Bd th us lm mk ch tl cl s lim n := ⟨by omega, by omega, by omega, by omega, by omega, g6, g7, g8, g9, g10, g11⟩
  have hbdg : ∀ t : Int32, Bd th us lm mk ch tl cl s lim n ∧ Xv t us mk cl s n := fun t => ⟨hbdn, Xv.mk g1 (by omega)⟩
  obtain ⟨h27, p22, d1, d2, d3⟩ : sI σ 27 n = 0 ∧ sI μ 22 n = nI 1 ∧ (1 ≤ 1 → kpX 28 = true → V so dl th (sL σ 25 (3 * n)) (sI μ 24 n) (sI μ 25 n)) ∧ (2 ≤ 1 → V so dl th (sL σ 25 (3 * n + 1)) (sI μ 26 n) (sI μ 27 n)) ∧ (28 = 28 → 1 ≤ 1 → ∃ q, q < th ∧ so q = 7 ∧ sL σ 25 (3 * n) = pk 7 (nI (dl q)) ∧ sI μ 25 n = nI q) := by
    rcases hst with h | h
    · exact h
    · exact absurd h.1 (by decide)
  obtain ⟨t0, a1, so7, a7, a5⟩ := d3 rfl (by omega)
  have e6 : sI σ 14 6 = nI lm := hB.2.2.2.2.2.2.1.2.2.2.2.2.1
  have dlq : dl t0 < lm := (hB.1.1 t0 a1).2.2.2.2 so7
  have hvt : vp_in (nI t0) 220 := vp_in_nI (by omega) (by decide)
  refine tc_after c3 hRA.1 hRA.2.2.1 c9 hn h22 ha r4 h24 (by omega) (by decide) ?_
  refine wk_sel hRA.1 hRA.2.2.1 c9 hn h22 ha r0 ?_ (by omega)
  refine ⟨fun q => absurd q (by decide), fun q => absurd q (by decide), fun q => absurd q (by decide), fun q => absurd q (by decide), fun q => absurd q (by decide), fun q => absurd q (by decide), fun q => absurd q (by decide), fun q => absurd q (by decide), fun _ => ?_, fun q => absurd q (by decide)⟩
  refine c_value (w := 0) c9 hn rfl (by omega) (c_number ?_)
  rw [Nat.add_zero, a7, nbr_pk]
  unfold wX6_force
  refine c_stage c9 hn (gF (by rw [h24]; decide) (c_value (w := 1) c9 hn rfl (by omega) (c_lfinish e6 (by omega) dlq ?_)))
  refine c_value (σ := wL (wI σ 17 (dl t0) 2) 20 (dl t0) (sL σ 25 (3 * n + 1))) (w := 1) c9 hn rfl (by omega) ?_
  refine fin_give (μ' := wI (wI (wI (wI μ 10 t0 2) 11 t0 (sI μ 0 39)) 12 t0 (sI μ 0 40)) 0 26 (nI n)) hW hRA hs (hcl.w (by omega)) hfl hn hC hφ (Bs.ldone hB a1 so7 hV) (hbdg _) ((Fc.rf.w1 (Or.inr (Or.inr (Or.inl (by decide))))).w2 (by decide)) (Fm.top (((Fm.rf.w1 (Or.inr (Or.inl (by decide)))).w1 (Or.inr (Or.inl (by decide)))).w1 (Or.inr (Or.inl (by decide))))) (Nat.le_refl _) (fun _ _ => rfl) (fun _ _ => rfl) (Nat.le_refl _) m45 rfl m36 hV ?_ kk
  refine ms_up m36 ht0 (fun K q => m_up m26 (by omega) x21 ha60 x23 hk (by omega) p22 (by omega) (fun h _ => absurd h (by decide)) (fun _ h => absurd h (by omega)) (fun _ _ => ?_))
  unfold wX11_upOf
  repeat refine gS (by decide) ?_
  intro _ _ _ _ _ _ _ _ _ _ _ _ _ _ _ _ _ _
  unfold wX11_upLater
  repeat refine gS (by decide) ?_
  refine ⟨fun _ => ?_, ?_⟩
  · unfold wX11_upWork
    refine gT rfl ?_
    rw [en, a5, nI_clamp (by omega), et]
    exact ⟨hvn, hvt, hvt, hvt, q⟩
  · repeat refine gS (by decide) ?_
    intros; contradiction
