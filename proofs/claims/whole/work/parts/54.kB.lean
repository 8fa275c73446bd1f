theorem sv10_0 {so dl ln : Nat → Nat} {th us lm mk ch tl cl fl na s lim n a f m φ : Nat} {σ μ : Sg} {Q : Sg → Prop} (h : Vx so dl ln th us lm mk ch tl cl fl na s lim n a f 10 0 m φ σ μ) (kk : ∀ σ' μ', MR μ μ' → Rr φ σ' μ' → Q σ') : TC σ Q := by
  obtain ⟨⟨hB, hbd, hRA, hs, hW⟩, hE, h24, hcl, hfl, hC, hφ, m45, m26, m36, hV, hX⟩ := h
  have hC0 := hC
  obtain ⟨c8, c9, c3, c4, c5⟩ := hC0
  rw [show n + 1 - 1 = n by omega] at c9
  have hbd0 := hbd
  obtain ⟨g1, g2, g3, g4, g5, g6, g7, g8, g9, g10, g11⟩ := hbd0
  obtain ⟨ha, hf, hk32, hcap, hm, h22, x21, h23, x23, hk, h26, x28, -, hst⟩ := id hE
  have h22 : sI σ 22 n = nI a := h22
  have h23 : sI σ 23 n = nI f := h23
  have h26 : sI σ 26 n = nI m := h26
  have ha60 : a < 60 := Nat.lt_of_lt_of_le ha hRA.2.2.1
  obtain ⟨k', hk', hk1, r0, r1, r2, r3, r4, r5, r6, r7, r8, r9, r10, r11⟩ := hRA.2.2.2 a ha
  have ek : 10 = k' := eqN (hk.symm.trans hk1) (by omega) (by omega)
  subst ek
  have e1 : sI σ 6 3 = nI us := hB.2.2.2.2.2.2.1.1
  have e5 : sI μ 0 44 = nI fl := hB.2.2.2.2.2.2.2.1.2.2.2.2.2.1
  have hn : n < 200 := by omega
  have hcn := cnt_le (P := isCl σ μ) n
  have et : sI μ 0 26 - (1 : Int32) = nI n := subN (n + 1) 1 m26 rfl (by omega)
  have hvn : vp_in (nI n) 220 := vp_in_nI (by omega) (by decide)
  have hva : vp_in (nI a) 60 := vp_in_nI ha60 (by decide)
  have en : (nI n).toNatClampNeg = n := nI_clamp (by omega)
  have ea : (nI a).toNatClampNeg = a := nI_clamp (by omega)
  have ht0 : ¬ sI μ 0 26 = 0 := neN (n + 1) 0 m26 rfl (by omega) (by omega) (by decide)
  have hcl : Cn cl ch s (17 * (n + 1) + 15) σ μ n := hcl.no (by decide)
  have hc1 : cl = cnt (isCl σ μ) n := hcl.1
  have hc2 := hcl.2
  have hbdn : Bd th us lm mk ch tl cl s lim n := ⟨by omega, by omega, by omega, by omega, by omega, g6, g7, g8, g9, g10, g11⟩
  have hbdg : ∀ t : Int32, Bd th us lm mk ch tl cl s lim n ∧ Xv t us mk cl s n := fun t => ⟨hbdn, Xv.mk g1 (by omega)⟩
  obtain ⟨h27, p22, d1, d2, d3⟩ : sI σ 27 n = 0 ∧ sI μ 22 n = nI 0 ∧ (1 ≤ 0 → kpX 10 = true → V so dl th (sL σ 25 (3 * n)) (sI μ 24 n) (sI μ 25 n)) ∧ (2 ≤ 0 → V so dl th (sL σ 25 (3 * n + 1)) (sI μ 26 n) (sI μ 27 n)) ∧ (10 = 28 → 1 ≤ 0 → ∃ q, q < th ∧ so q = 7 ∧ sL σ 25 (3 * n) = pk 7 (nI (dl q)) ∧ sI μ 25 n = nI q) := by
    rcases hst with h | h
    · exact h
    · exact absurd h.1 (by decide)
  rw [Nat.add_zero] at hV
  have e7 : sI μ 0 6 = nI th := hB.2.2.2.2.2.2.1.2.2.2.2.2.2
  by_cases tx0 : sI μ 0 39 = 0
  · have eX : nbr (sL σ 25 (3 * n)) = sI μ 0 40 := hV.num tx0
    have hx1 := hX.1
    rw [if_pos tx0] at hx1
    rcases casesN (sI μ 0 40) (n := 17) (by omega) with g | ⟨z1, z2⟩ | ⟨z, hz, hzx⟩
    · refine sv_fail (j := 1) (e := 3) (r := 3) (c := 3) c3 hRA c9 hn h22 ha r4 h24 (by omega) r0 hB hbdn hW hs (hcl.w (by omega)) hfl hC hφ m45 (by omega) rfl (by omega) (by omega) (fun lx ly hx hy Q' q => of_newS (by omega) (by rw [hV.fwt, tx0]; rfl) (by rw [eX]; exact g) q) rfl ?_ kk
      refine ms_up m36 ht0 (fun K q => m_up m26 (by omega) x21 ha60 x23 hk (by omega) p22 (by omega) (fun _ h => absurd h (by unfold isP2; omega)) (fun h _ => absurd h (by decide)) (fun _ _ => ?_))
      unfold wX11_upOf
      repeat refine gS (by decide) ?_
      refine ⟨fun _ => ?_, ?_⟩
      · unfold wX11_upOf_212
        rw [et]
        exact m_rowS (μ := wI μ 0 26 (nI n)) e5 hfl tx0 g q
      · repeat refine gS (by decide) ?_
        intros; contradiction
    · refine tc_at (j := 1) (r := 12) c3 hRA.1 hRA.2.2.1 c9 hn h22 ha r4 h24 (by omega) r0 e1 (by omega) (fun lx ly _ _ Q' q => of_newL (by omega) (by rw [hV.fwt, tx0]; rfl) (by rw [eX]; exact z1) (by rw [eX]; exact gt16 z2) q) (fun q => absurd q (by decide)) (fun _ Q' hQ => fin_end (μ' := wI μ 0 26 (nI n)) (e := 12) hW hRA hs (hcl.w (by omega)) hfl hn hC hφ h22 hB hbdn Fm.rf.top m45 rfl rfl (by omega) (by omega) rfl ?_ (fun σ' μ' h hr => hQ _ (kk σ' μ' h hr))) (fun _ q => absurd rfl q)
      refine ms_up m36 ht0 (fun K q => m_up m26 (by omega) x21 ha60 x23 hk (by omega) p22 (by omega) (fun _ h => absurd h (by unfold isP2; omega)) (fun h _ => absurd h (by decide)) (fun _ _ => ?_))
      unfold wX11_upOf
      repeat refine gS (by decide) ?_
      refine ⟨fun _ => ?_, ?_⟩
      · unfold wX11_upOf_212
        rw [et]
        exact m_rowL (μ := wI μ 0 26 (nI n)) e5 hfl tx0 z1 (gt16 z2) q
      · repeat refine gS (by decide) ?_
        intros; contradiction
    · refine sv_work (j := 1) c3 hRA c9 hn h22 ha r4 h24 (by omega) r0 hB (by omega) (fun lx ly _ _ Q' q => of_newO (by omega) (by rw [hV.fwt, tx0]; rfl) (eX.trans hzx) hz q) ?_
      refine wk_plain hRA.1 hRA.2.2.1 c9 hn h22 ha r0 (by omega) (by omega) (by omega) (by omega) (by omega) (by omega) (by omega) (by omega) (by omega) (by omega) (by omega) (wp_hi hRA.1 hRA.2.2.1 c9 hn h22 ha (by omega) (by omega) ?_)
      unfold wX6_change
      repeat refine gS (by decide) ?_
      refine ⟨fun _ => ?_, ?_⟩
      · refine c_number ?_
        rw [eX, hzx]
        refine c_newRow (t := nI 2) (by omega) e1 (by omega) ?_
        refine fin_give (so' := up1 so th 2) (dl' := up1 dl th us) (ln' := up1 ln th z) (th' := th + 1) (us' := us + 1 + z) (μ' := mVal (mRow (wI μ 0 26 (nI n)) th z 2) (nI 2) (nI th)) hW hRA hs (hcl.w (by omega)) hfl hn hC hφ (Bs.row (s0 := 2) (n := z) (μ := wI μ 0 26 (nI n)) hB g11 (by omega) (by omega) (by omega)) ⟨⟨by omega, by omega, by omega, by omega, by omega, g6, g7, g8, g9, g10, by omega⟩, Xv.mk0 (fun h => absurd (show nI 2 = 0 from h) (by decide)) (by omega) (by omega)⟩ Fc.rf.row (Fm.rf.top.row (by omega)).val (by omega) (fun _ h => up1_lt h) (fun _ h => up1_lt h) (Nat.le_refl _) (show sI (mRow (wI μ 0 26 (nI n)) th z 2) 0 45 = nI s by rw [mRow_I _ _ _ _ _ _ (by omega) (Or.inr (by decide)) (Or.inl (by decide)) (Or.inl (by decide)) (Or.inl (by decide))]; exact m45) (show sI (mRow (wI μ 0 26 (nI n)) th z 2) 0 26 = nI n by rw [mRow_I _ _ _ _ _ _ (by omega) (Or.inr (by decide)) (Or.inl (by decide)) (Or.inl (by decide)) (Or.inl (by decide))]; rfl) rfl (Or.inr (Or.inr ⟨th, by omega, by rw [up1_e]; omega, by rw [up1_e]; omega, by rw [up1_e]; rfl, rfl, by rw [up1_e, up1_e]⟩)) ?_ kk
        refine ms_up m36 ht0 (fun K q => m_up m26 (by omega) x21 ha60 x23 hk (by omega) p22 (by omega) (fun _ h => absurd h (by unfold isP2; omega)) (fun h _ => absurd h (by decide)) (fun _ _ => ?_))
        unfold wX11_upOf
        repeat refine gS (by decide) ?_
        refine ⟨fun _ => ?_, ?_⟩
        · unfold wX11_upOf_212
          rw [et]
          exact m_row (kd := 10) (s0 := 2) e5 hfl (by omega) tx0 hzx hz e7 (by omega) q
        · repeat refine gS (by decide) ?_
          intros; contradiction
      · repeat refine gS (by decide) ?_
        intros; contradiction
  · obtain ⟨e, he1, he8, he7, hee⟩ := ft_e tx0
    refine sv_fail (j := 1) (e := e) (r := ft (sI μ 0 39)) (c := ft (sI μ 0 39)) c3 hRA c9 hn h22 ha r4 h24 (by omega) r0 hB hbdn hW hs (hcl.w (by omega)) hfl hC hφ m45 (by omega) hee he1 he8 (fun lx ly _ _ Q' q => of_newW (by omega) (by rw [hV.fwt]; exact ft_n0 tx0) (by rw [hV.fwt]; exact q)) (if_neg (ft_7 tx0)) ?_ kk
    rw [← hee]
    refine ms_up m36 ht0 (fun K q => m_up m26 (by omega) x21 ha60 x23 hk (by omega) p22 (by omega) (fun _ h => absurd h (by unfold isP2; omega)) (fun h _ => absurd h (by decide)) (fun _ _ => ?_))
    unfold wX11_upOf
    repeat refine gS (by decide) ?_
    refine ⟨fun _ => ?_, ?_⟩
    · unfold wX11_upOf_212
      rw [et]
      exact m_rowW (μ := wI μ 0 26 (nI n)) e5 hfl tx0 q
    · repeat refine gS (by decide) ?_
      intros; contradiction
theorem sv11_0 {so dl ln : Nat → Nat} {th us lm mk ch tl cl fl na s lim n a f m φ : Nat} {σ μ : Sg} {Q : Sg → Prop} (h : Vx so dl ln th us lm mk ch tl cl fl na s lim n a f 11 0 m φ σ μ) (kk : ∀ σ' μ', MR μ μ' → Rr φ σ' μ' → Q σ') : TC σ Q := by
  obtain ⟨⟨hB, hbd, hRA, hs, hW⟩, hE, h24, hcl, hfl, hC, hφ, m45, m26, m36, hV, hX⟩ := h
  have hC0 := hC
  obtain ⟨c8, c9, c3, c4, c5⟩ := hC0
  rw [show n + 1 - 1 = n by omega] at c9
  have hbd0 := hbd
  obtain ⟨g1, g2, g3, g4, g5, g6, g7, g8, g9, g10, g11⟩ := hbd0
  obtain ⟨ha, hf, hk32, hcap, hm, h22, x21, h23, x23, hk, h26, x28, -, hst⟩ := id hE
  have h22 : sI σ 22 n = nI a := h22
  have h23 : sI σ 23 n = nI f := h23
  have h26 : sI σ 26 n = nI m := h26
  have ha60 : a < 60 := Nat.lt_of_lt_of_le ha hRA.2.2.1
  obtain ⟨k', hk', hk1, r0, r1, r2, r3, r4, r5, r6, r7, r8, r9, r10, r11⟩ := hRA.2.2.2 a ha
  have ek : 11 = k' := eqN (hk.symm.trans hk1) (by omega) (by omega)
  subst ek
  have e1 : sI σ 6 3 = nI us := hB.2.2.2.2.2.2.1.1
  have e5 : sI μ 0 44 = nI fl := hB.2.2.2.2.2.2.2.1.2.2.2.2.2.1
  have hn : n < 200 := by omega
  have hcn := cnt_le (P := isCl σ μ) n
  have et : sI μ 0 26 - (1 : Int32) = nI n := subN (n + 1) 1 m26 rfl (by omega)
  have hvn : vp_in (nI n) 220 := vp_in_nI (by omega) (by decide)
  have hva : vp_in (nI a) 60 := vp_in_nI ha60 (by decide)
  have en : (nI n).toNatClampNeg = n := nI_clamp (by omega)
  have ea : (nI a).toNatClampNeg = a := nI_clamp (by omega)
  have ht0 : ¬ sI μ 0 26 = 0 := neN (n + 1) 0 m26 rfl (by omega) (by omega) (by decide)
  have hcl : Cn cl ch s (17 * (n + 1) + 15) σ μ n := hcl.no (by decide)
  have hc1 : cl = cnt (isCl σ μ) n := hcl.1
  have hc2 := hcl.2
  have hbdn : Bd th us lm mk ch tl cl s lim n := ⟨by omega, by omega, by omega, by omega, by omega, g6, g7, g8, g9, g10, g11⟩
  have hbdg : ∀ t : Int32, Bd th us lm mk ch tl cl s lim n ∧ Xv t us mk cl s n := fun t => ⟨hbdn, Xv.mk g1 (by omega)⟩
  obtain ⟨h27, p22, d1, d2, d3⟩ : sI σ 27 n = 0 ∧ sI μ 22 n = nI 0 ∧ (1 ≤ 0 → kpX 11 = true → V so dl th (sL σ 25 (3 * n)) (sI μ 24 n) (sI μ 25 n)) ∧ (2 ≤ 0 → V so dl th (sL σ 25 (3 * n + 1)) (sI μ 26 n) (sI μ 27 n)) ∧ (11 = 28 → 1 ≤ 0 → ∃ q, q < th ∧ so q = 7 ∧ sL σ 25 (3 * n) = pk 7 (nI (dl q)) ∧ sI μ 25 n = nI q) := by
    rcases hst with h | h
    · exact h
    · exact absurd h.1 (by decide)
  rw [Nat.add_zero] at hV
  have e7 : sI μ 0 6 = nI th := hB.2.2.2.2.2.2.1.2.2.2.2.2.2
  by_cases tx0 : sI μ 0 39 = 0
  · have eX : nbr (sL σ 25 (3 * n)) = sI μ 0 40 := hV.num tx0
    have hx1 := hX.1
    rw [if_pos tx0] at hx1
    rcases casesN (sI μ 0 40) (n := 17) (by omega) with g | ⟨z1, z2⟩ | ⟨z, hz, hzx⟩
    · refine sv_fail (j := 1) (e := 3) (r := 3) (c := 3) c3 hRA c9 hn h22 ha r4 h24 (by omega) r0 hB hbdn hW hs (hcl.w (by omega)) hfl hC hφ m45 (by omega) rfl (by omega) (by omega) (fun lx ly hx hy Q' q => of_newS (by omega) (by rw [hV.fwt, tx0]; rfl) (by rw [eX]; exact g) q) rfl ?_ kk
      refine ms_up m36 ht0 (fun K q => m_up m26 (by omega) x21 ha60 x23 hk (by omega) p22 (by omega) (fun _ h => absurd h (by unfold isP2; omega)) (fun h _ => absurd h (by decide)) (fun _ _ => ?_))
      unfold wX11_upOf
      repeat refine gS (by decide) ?_
      refine ⟨fun _ => ?_, ?_⟩
      · unfold wX11_upOf_212
        rw [et]
        exact m_rowS (μ := wI μ 0 26 (nI n)) e5 hfl tx0 g q
      · repeat refine gS (by decide) ?_
        intros; contradiction
    · refine tc_at (j := 1) (r := 12) c3 hRA.1 hRA.2.2.1 c9 hn h22 ha r4 h24 (by omega) r0 e1 (by omega) (fun lx ly _ _ Q' q => of_newL (by omega) (by rw [hV.fwt, tx0]; rfl) (by rw [eX]; exact z1) (by rw [eX]; exact gt16 z2) q) (fun q => absurd q (by decide)) (fun _ Q' hQ => fin_end (μ' := wI μ 0 26 (nI n)) (e := 12) hW hRA hs (hcl.w (by omega)) hfl hn hC hφ h22 hB hbdn Fm.rf.top m45 rfl rfl (by omega) (by omega) rfl ?_ (fun σ' μ' h hr => hQ _ (kk σ' μ' h hr))) (fun _ q => absurd rfl q)
      refine ms_up m36 ht0 (fun K q => m_up m26 (by omega) x21 ha60 x23 hk (by omega) p22 (by omega) (fun _ h => absurd h (by unfold isP2; omega)) (fun h _ => absurd h (by decide)) (fun _ _ => ?_))
      unfold wX11_upOf
      repeat refine gS (by decide) ?_
      refine ⟨fun _ => ?_, ?_⟩
      · unfold wX11_upOf_212
        rw [et]
        exact m_rowL (μ := wI μ 0 26 (nI n)) e5 hfl tx0 z1 (gt16 z2) q
      · repeat refine gS (by decide) ?_
        intros; contradiction
    · refine sv_work (j := 1) c3 hRA c9 hn h22 ha r4 h24 (by omega) r0 hB (by omega) (fun lx ly _ _ Q' q => of_newO (by omega) (by rw [hV.fwt, tx0]; rfl) (eX.trans hzx) hz q) ?_
      refine wk_plain hRA.1 hRA.2.2.1 c9 hn h22 ha r0 (by omega) (by omega) (by omega) (by omega) (by omega) (by omega) (by omega) (by omega) (by omega) (by omega) (by omega) (wp_hi hRA.1 hRA.2.2.1 c9 hn h22 ha (by omega) (by omega) ?_)
      unfold wX6_change
      repeat refine gS (by decide) ?_
      refine ⟨fun _ => ?_, ?_⟩
      · refine c_number ?_
        rw [eX, hzx]
        refine c_newRow (t := nI 3) (by omega) e1 (by omega) ?_
        refine fin_give (so' := up1 so th 3) (dl' := up1 dl th us) (ln' := up1 ln th z) (th' := th + 1) (us' := us + 1 + z) (μ' := mVal (mRow (wI μ 0 26 (nI n)) th z 3) (nI 3) (nI th)) hW hRA hs (hcl.w (by omega)) hfl hn hC hφ (Bs.row (s0 := 3) (n := z) (μ := wI μ 0 26 (nI n)) hB g11 (by omega) (by omega) (by omega)) ⟨⟨by omega, by omega, by omega, by omega, by omega, g6, g7, g8, g9, g10, by omega⟩, Xv.mk0 (fun h => absurd (show nI 3 = 0 from h) (by decide)) (by omega) (by omega)⟩ Fc.rf.row (Fm.rf.top.row (by omega)).val (by omega) (fun _ h => up1_lt h) (fun _ h => up1_lt h) (Nat.le_refl _) (show sI (mRow (wI μ 0 26 (nI n)) th z 3) 0 45 = nI s by rw [mRow_I _ _ _ _ _ _ (by omega) (Or.inr (by decide)) (Or.inl (by decide)) (Or.inl (by decide)) (Or.inl (by decide))]; exact m45) (show sI (mRow (wI μ 0 26 (nI n)) th z 3) 0 26 = nI n by rw [mRow_I _ _ _ _ _ _ (by omega) (Or.inr (by decide)) (Or.inl (by decide)) (Or.inl (by decide)) (Or.inl (by decide))]; rfl) rfl (Or.inr (Or.inr ⟨th, by omega, by rw [up1_e]; omega, by rw [up1_e]; omega, by rw [up1_e]; rfl, rfl, by rw [up1_e, up1_e]⟩)) ?_ kk
        refine ms_up m36 ht0 (fun K q => m_up m26 (by omega) x21 ha60 x23 hk (by omega) p22 (by omega) (fun _ h => absurd h (by unfold isP2; omega)) (fun h _ => absurd h (by decide)) (fun _ _ => ?_))
        unfold wX11_upOf
        repeat refine gS (by decide) ?_
        refine ⟨fun _ => ?_, ?_⟩
        · unfold wX11_upOf_212
          rw [et]
          exact m_row (kd := 11) (s0 := 3) e5 hfl (by omega) tx0 hzx hz e7 (by omega) q
        · repeat refine gS (by decide) ?_
          intros; contradiction
      · repeat refine gS (by decide) ?_
        intros; contradiction
  · obtain ⟨e, he1, he8, he7, hee⟩ := ft_e tx0
    refine sv_fail (j := 1) (e := e) (r := ft (sI μ 0 39)) (c := ft (sI μ 0 39)) c3 hRA c9 hn h22 ha r4 h24 (by omega) r0 hB hbdn hW hs (hcl.w (by omega)) hfl hC hφ m45 (by omega) hee he1 he8 (fun lx ly _ _ Q' q => of_newW (by omega) (by rw [hV.fwt]; exact ft_n0 tx0) (by rw [hV.fwt]; exact q)) (if_neg (ft_7 tx0)) ?_ kk
    rw [← hee]
    refine ms_up m36 ht0 (fun K q => m_up m26 (by omega) x21 ha60 x23 hk (by omega) p22 (by omega) (fun _ h => absurd h (by unfold isP2; omega)) (fun h _ => absurd h (by decide)) (fun _ _ => ?_))
    unfold wX11_upOf
    repeat refine gS (by decide) ?_
    refine ⟨fun _ => ?_, ?_⟩
    · unfold wX11_upOf_212
      rw [et]
      exact m_rowW (μ := wI μ 0 26 (nI n)) e5 hfl tx0 q
    · repeat refine gS (by decide) ?_
      intros; contradiction
theorem sv12_0 {so dl ln : Nat → Nat} {th us lm mk ch tl cl fl na s lim n a f m φ : Nat} {σ μ : Sg} {Q : Sg → Prop} (h : Vx so dl ln th us lm mk ch tl cl fl na s lim n a f 12 0 m φ σ μ) (kk : ∀ σ' μ', MR μ μ' → Rr φ σ' μ' → Q σ') : TC σ Q := by
  obtain ⟨⟨hB, hbd, hRA, hs, hW⟩, hE, h24, hcl, hfl, hC, hφ, m45, m26, m36, hV, hX⟩ := h
  have hC0 := hC
  obtain ⟨c8, c9, c3, c4, c5⟩ := hC0
  rw [show n + 1 - 1 = n by omega] at c9
  have hbd0 := hbd
  obtain ⟨g1, g2, g3, g4, g5, g6, g7, g8, g9, g10, g11⟩ := hbd0
  obtain ⟨ha, hf, hk32, hcap, hm, h22, x21, h23, x23, hk, h26, x28, -, hst⟩ := id hE
  have h22 : sI σ 22 n = nI a := h22
  have h23 : sI σ 23 n = nI f := h23
  have h26 : sI σ 26 n = nI m := h26
  have ha60 : a < 60 := Nat.lt_of_lt_of_le ha hRA.2.2.1
  obtain ⟨k', hk', hk1, r0, r1, r2, r3, r4, r5, r6, r7, r8, r9, r10, r11⟩ := hRA.2.2.2 a ha
  have ek : 12 = k' := eqN (hk.symm.trans hk1) (by omega) (by omega)
  subst ek
  have e1 : sI σ 6 3 = nI us := hB.2.2.2.2.2.2.1.1
  have e5 : sI μ 0 44 = nI fl := hB.2.2.2.2.2.2.2.1.2.2.2.2.2.1
  have hn : n < 200 := by omega
  have hcn := cnt_le (P := isCl σ μ) n
  have et : sI μ 0 26 - (1 : Int32) = nI n := subN (n + 1) 1 m26 rfl (by omega)
  have hvn : vp_in (nI n) 220 := vp_in_nI (by omega) (by decide)
  have hva : vp_in (nI a) 60 := vp_in_nI ha60 (by decide)
  have en : (nI n).toNatClampNeg = n := nI_clamp (by omega)
  have ea : (nI a).toNatClampNeg = a := nI_clamp (by omega)
  have ht0 : ¬ sI μ 0 26 = 0 := neN (n + 1) 0 m26 rfl (by omega) (by omega) (by decide)
  have hcl : Cn cl ch s (17 * (n + 1) + 15) σ μ n := hcl.no (by decide)
  have hc1 : cl = cnt (isCl σ μ) n := hcl.1
  have hc2 := hcl.2
  have hbdn : Bd th us lm mk ch tl cl s lim n := ⟨by omega, by omega, by omega, by omega, by omega, g6, g7, g8, g9, g10, g11⟩
  have hbdg : ∀ t : Int32, Bd th us lm mk ch tl cl s lim n ∧ Xv t us mk cl s n := fun t => ⟨hbdn, Xv.mk g1 (by omega)⟩
  obtain ⟨h27, p22, d1, d2, d3⟩ : sI σ 27 n = 0 ∧ sI μ 22 n = nI 0 ∧ (1 ≤ 0 → kpX 12 = true → V so dl th (sL σ 25 (3 * n)) (sI μ 24 n) (sI μ 25 n)) ∧ (2 ≤ 0 → V so dl th (sL σ 25 (3 * n + 1)) (sI μ 26 n) (sI μ 27 n)) ∧ (12 = 28 → 1 ≤ 0 → ∃ q, q < th ∧ so q = 7 ∧ sL σ 25 (3 * n) = pk 7 (nI (dl q)) ∧ sI μ 25 n = nI q) := by
    rcases hst with h | h
    · exact h
    · exact absurd h.1 (by decide)
  rw [Nat.add_zero] at hV
  have e7 : sI μ 0 6 = nI th := hB.2.2.2.2.2.2.1.2.2.2.2.2.2
  by_cases tx0 : sI μ 0 39 = 0
  · have eX : nbr (sL σ 25 (3 * n)) = sI μ 0 40 := hV.num tx0
    have hx1 := hX.1
    rw [if_pos tx0] at hx1
    rcases casesN (sI μ 0 40) (n := 17) (by omega) with g | ⟨z1, z2⟩ | ⟨z, hz, hzx⟩
    · refine sv_fail (j := 1) (e := 3) (r := 3) (c := 3) c3 hRA c9 hn h22 ha r4 h24 (by omega) r0 hB hbdn hW hs (hcl.w (by omega)) hfl hC hφ m45 (by omega) rfl (by omega) (by omega) (fun lx ly hx hy Q' q => of_newS (by omega) (by rw [hV.fwt, tx0]; rfl) (by rw [eX]; exact g) q) rfl ?_ kk
      refine ms_up m36 ht0 (fun K q => m_up m26 (by omega) x21 ha60 x23 hk (by omega) p22 (by omega) (fun _ h => absurd h (by unfold isP2; omega)) (fun h _ => absurd h (by decide)) (fun _ _ => ?_))
      unfold wX11_upOf
      repeat refine gS (by decide) ?_
      refine ⟨fun _ => ?_, ?_⟩
      · unfold wX11_upOf_212
        rw [et]
        exact m_rowS (μ := wI μ 0 26 (nI n)) e5 hfl tx0 g q
      · repeat refine gS (by decide) ?_
        intros; contradiction
    · refine tc_at (j := 1) (r := 12) c3 hRA.1 hRA.2.2.1 c9 hn h22 ha r4 h24 (by omega) r0 e1 (by omega) (fun lx ly _ _ Q' q => of_newL (by omega) (by rw [hV.fwt, tx0]; rfl) (by rw [eX]; exact z1) (by rw [eX]; exact gt16 z2) q) (fun q => absurd q (by decide)) (fun _ Q' hQ => fin_end (μ' := wI μ 0 26 (nI n)) (e := 12) hW hRA hs (hcl.w (by omega)) hfl hn hC hφ h22 hB hbdn Fm.rf.top m45 rfl rfl (by omega) (by omega) rfl ?_ (fun σ' μ' h hr => hQ _ (kk σ' μ' h hr))) (fun _ q => absurd rfl q)
      refine ms_up m36 ht0 (fun K q => m_up m26 (by omega) x21 ha60 x23 hk (by omega) p22 (by omega) (fun _ h => absurd h (by unfold isP2; omega)) (fun h _ => absurd h (by decide)) (fun _ _ => ?_))
      unfold wX11_upOf
      repeat refine gS (by decide) ?_
      refine ⟨fun _ => ?_, ?_⟩
      · unfold wX11_upOf_212
        rw [et]
        exact m_rowL (μ := wI μ 0 26 (nI n)) e5 hfl tx0 z1 (gt16 z2) q
      · repeat refine gS (by decide) ?_
        intros; contradiction
    · refine sv_work (j := 1) c3 hRA c9 hn h22 ha r4 h24 (by omega) r0 hB (by omega) (fun lx ly _ _ Q' q => of_newO (by omega) (by rw [hV.fwt, tx0]; rfl) (eX.trans hzx) hz q) ?_
      refine wk_plain hRA.1 hRA.2.2.1 c9 hn h22 ha r0 (by omega) (by omega) (by omega) (by omega) (by omega) (by omega) (by omega) (by omega) (by omega) (by omega) (by omega) (wp_hi hRA.1 hRA.2.2.1 c9 hn h22 ha (by omega) (by omega) ?_)
      unfold wX6_change
      repeat refine gS (by decide) ?_
      refine ⟨fun _ => ?_, ?_⟩
      · refine c_number ?_
        rw [eX, hzx]
        refine c_newRow (t := nI 4) (by omega) e1 (by omega) ?_
        refine fin_give (so' := up1 so th 4) (dl' := up1 dl th us) (ln' := up1 ln th z) (th' := th + 1) (us' := us + 1 + z) (μ' := mVal (mRow (wI μ 0 26 (nI n)) th z 4) (nI 4) (nI th)) hW hRA hs (hcl.w (by omega)) hfl hn hC hφ (Bs.row (s0 := 4) (n := z) (μ := wI μ 0 26 (nI n)) hB g11 (by omega) (by omega) (by omega)) ⟨⟨by omega, by omega, by omega, by omega, by omega, g6, g7, g8, g9, g10, by omega⟩, Xv.mk0 (fun h => absurd (show nI 4 = 0 from h) (by decide)) (by omega) (by omega)⟩ Fc.rf.row (Fm.rf.top.row (by omega)).val (by omega) (fun _ h => up1_lt h) (fun _ h => up1_lt h) (Nat.le_refl _) (show sI (mRow (wI μ 0 26 (nI n)) th z 4) 0 45 = nI s by rw [mRow_I _ _ _ _ _ _ (by omega) (Or.inr (by decide)) (Or.inl (by decide)) (Or.inl (by decide)) (Or.inl (by decide))]; exact m45) (show sI (mRow (wI μ 0 26 (nI n)) th z 4) 0 26 = nI n by rw [mRow_I _ _ _ _ _ _ (by omega) (Or.inr (by decide)) (Or.inl (by decide)) (Or.inl (by decide)) (Or.inl (by decide))]; rfl) rfl (Or.inr (Or.inr ⟨th, by omega, by rw [up1_e]; omega, by rw [up1_e]; omega, by rw [up1_e]; rfl, rfl, by rw [up1_e, up1_e]⟩)) ?_ kk
        refine ms_up m36 ht0 (fun K q => m_up m26 (by omega) x21 ha60 x23 hk (by omega) p22 (by omega) (fun _ h => absurd h (by unfold isP2; omega)) (fun h _ => absurd h (by decide)) (fun _ _ => ?_))
        unfold wX11_upOf
        repeat refine gS (by decide) ?_
        refine ⟨fun _ => ?_, ?_⟩
        · unfold wX11_upOf_212
          rw [et]
          exact m_row (kd := 12) (s0 := 4) e5 hfl (by omega) tx0 hzx hz e7 (by omega) q
        · repeat refine gS (by decide) ?_
          intros; contradiction
      · repeat refine gS (by decide) ?_
        intros; contradiction
  · obtain ⟨e, he1, he8, he7, hee⟩ := ft_e tx0
    refine sv_fail (j := 1) (e := e) (r := ft (sI μ 0 39)) (c := ft (sI μ 0 39)) c3 hRA c9 hn h22 ha r4 h24 (by omega) r0 hB hbdn hW hs (hcl.w (by omega)) hfl hC hφ m45 (by omega) hee he1 he8 (fun lx ly _ _ Q' q => of_newW (by omega) (by rw [hV.fwt]; exact ft_n0 tx0) (by rw [hV.fwt]; exact q)) (if_neg (ft_7 tx0)) ?_ kk
    rw [← hee]
    refine ms_up m36 ht0 (fun K q => m_up m26 (by omega) x21 ha60 x23 hk (by omega) p22 (by omega) (fun _ h => absurd h (by unfold isP2; omega)) (fun h _ => absurd h (by decide)) (fun _ _ => ?_))
    unfold wX11_upOf
    repeat refine gS (by decide) ?_
    refine ⟨fun _ => ?_, ?_⟩
    · unfold wX11_upOf_212
      rw [et]
      exact m_rowW (μ := wI μ 0 26 (nI n)) e5 hfl tx0 q
    · repeat refine gS (by decide) ?_
      intros; contradiction
theorem sv13_0 {so dl ln : Nat → Nat} {th us lm mk ch tl cl fl na s lim n a f m φ : Nat} {σ μ : Sg} {Q : Sg → Prop} (h : Vx so dl ln th us lm mk ch tl cl fl na s lim n a f 13 0 m φ σ μ) (kk : ∀ σ' μ', MR μ μ' → Rr φ σ' μ' → Q σ') : TC σ Q := by
  obtain ⟨⟨hB, hbd, hRA, hs, hW⟩, hE, h24, hcl, hfl, hC, hφ, m45, m26, m36, hV, hX⟩ := h
  have hC0 := hC
  obtain ⟨c8, c9, c3, c4, c5⟩ := hC0
  rw [show n + 1 - 1 = n by omega] at c9
  have hbd0 := hbd
  obtain ⟨g1, g2, g3, g4, g5, g6, g7, g8, g9, g10, g11⟩ := hbd0
  obtain ⟨ha, hf, hk32, hcap, hm, h22, x21, h23, x23, hk, h26, x28, -, hst⟩ := id hE
  have h22 : sI σ 22 n = nI a := h22
  have h23 : sI σ 23 n = nI f := h23
  have h26 : sI σ 26 n = nI m := h26
  have ha60 : a < 60 := Nat.lt_of_lt_of_le ha hRA.2.2.1
  obtain ⟨k', hk', hk1, r0, r1, r2, r3, r4, r5, r6, r7, r8, r9, r10, r11⟩ := hRA.2.2.2 a ha
  have ek : 13 = k' := eqN (hk.symm.trans hk1) (by omega) (by omega)
  subst ek
  have e1 : sI σ 6 3 = nI us := hB.2.2.2.2.2.2.1.1
  have e5 : sI μ 0 44 = nI fl := hB.2.2.2.2.2.2.2.1.2.2.2.2.2.1
  have hn : n < 200 := by omega
  have hcn := cnt_le (P := isCl σ μ) n
  have et : sI μ 0 26 - (1 : Int32) = nI n := subN (n + 1) 1 m26 rfl (by omega)
  have hvn : vp_in (nI n) 220 := vp_in_nI (by omega) (by decide)
  have hva : vp_in (nI a) 60 := vp_in_nI ha60 (by decide)
  have en : (nI n).toNatClampNeg = n := nI_clamp (by omega)
  have ea : (nI a).toNatClampNeg = a := nI_clamp (by omega)
  have ht0 : ¬ sI μ 0 26 = 0 := neN (n + 1) 0 m26 rfl (by omega) (by omega) (by decide)
  have hcl : Cn cl ch s (17 * (n + 1) + 15) σ μ n := hcl.no (by decide)
  have hc1 : cl = cnt (isCl σ μ) n := hcl.1
  have hc2 := hcl.2
  have hbdn : Bd th us lm mk ch tl cl s lim n := ⟨by omega, by omega, by omega, by omega, by omega, g6, g7, g8, g9, g10, g11⟩
  have hbdg : ∀ t : Int32, Bd th us lm mk ch tl cl s lim n ∧ Xv t us mk cl s n := fun t => ⟨hbdn, Xv.mk g1 (by omega)⟩
  obtain ⟨h27, p22, d1, d2, d3⟩ : sI σ 27 n = 0 ∧ sI μ 22 n = nI 0 ∧ (1 ≤ 0 → kpX 13 = true → V so dl th (sL σ 25 (3 * n)) (sI μ 24 n) (sI μ 25 n)) ∧ (2 ≤ 0 → V so dl th (sL σ 25 (3 * n + 1)) (sI μ 26 n) (sI μ 27 n)) ∧ (13 = 28 → 1 ≤ 0 → ∃ q, q < th ∧ so q = 7 ∧ sL σ 25 (3 * n) = pk 7 (nI (dl q)) ∧ sI μ 25 n = nI q) := by
    rcases hst with h | h
    · exact h
    · exact absurd h.1 (by decide)
  rw [Nat.add_zero] at hV
  have e7 : sI μ 0 6 = nI th := hB.2.2.2.2.2.2.1.2.2.2.2.2.2
  refine sv_work (j := 1) c3 hRA c9 hn h22 ha r4 h24 (by omega) r0 hB (by omega) (fun lx ly _ _ Q' q => of_none (by simp) q) ?_
  refine wk_plain hRA.1 hRA.2.2.1 c9 hn h22 ha r0 (by omega) (by omega) (by omega) (by omega) (by omega) (by omega) (by omega) (by omega) (by omega) (by omega) (by omega) (wp_hi hRA.1 hRA.2.2.1 c9 hn h22 ha (by omega) (by omega) ?_)
  unfold wX6_change
  repeat refine gS (by decide) ?_
  refine ⟨fun _ => ?_, ?_⟩
  · refine c_newLink (t := nI 5) e1 (by omega) ?_
    refine fin_give (so' := up1 so th 5) (dl' := up1 dl th us) (ln' := up1 ln th 0) (th' := th + 1) (us' := us + 1) (μ' := mVal (mLink (wI μ 0 26 (nI n)) th (sI μ 0 39) (sI μ 0 40)) (nI 5) (nI th)) hW hRA hs (hcl.w (by omega)) hfl hn hC hφ (Bs.link (s0 := 5) (μ := wI μ 0 26 (nI n)) hB g11 (by omega) hV) ⟨⟨by omega, by omega, by omega, by omega, by omega, g6, g7, g8, g9, g10, by omega⟩, Xv.mk0 (fun h => absurd (show nI 5 = 0 from h) (by decide)) (by omega) (by omega)⟩ Fc.rf.link Fm.rf.top.link.val (by omega) (fun _ h => up1_lt h) (fun _ h => up1_lt h) (Nat.le_refl _) (show sI (mLink (wI μ 0 26 (nI n)) th (sI μ 0 39) (sI μ 0 40)) 0 45 = nI s by rw [mLink_I _ _ _ _ _ _ (Or.inr (by decide)) (Or.inl (by decide)) (Or.inl (by decide)) (Or.inl (by decide))]; exact m45) (show sI (mLink (wI μ 0 26 (nI n)) th (sI μ 0 39) (sI μ 0 40)) 0 26 = nI n by rw [mLink_I _ _ _ _ _ _ (Or.inr (by decide)) (Or.inl (by decide)) (Or.inl (by decide)) (Or.inl (by decide))]; rfl) rfl (Or.inr (Or.inr ⟨th, by omega, by rw [up1_e]; omega, by rw [up1_e]; omega, by rw [up1_e]; rfl, rfl, by rw [up1_e, up1_e]⟩)) ?_ kk
    refine ms_up m36 ht0 (fun K q => m_up m26 (by omega) x21 ha60 x23 hk (by omega) p22 (by omega) (fun _ h => absurd h (by unfold isP2; omega)) (fun h _ => absurd h (by decide)) (fun _ _ => ?_))
    unfold wX11_upOf
    repeat refine gS (by decide) ?_
    refine ⟨fun _ => ?_, ?_⟩
    · unfold wX11_upOf_232 wX11_upOf_291
      rw [et]
      refine m_newThing (k := th) e7 (by omega) ?_
      have e16 : (16 : Int32) * nI th = nI (16 * th) := mulN 16 th rfl rfl
      rw [e16, nI_clamp (by omega), mThing_I _ _ _ _ _ (Or.inr (by decide)) (Or.inl (by decide)) (Or.inl (by decide)) (Or.inl (by decide)), mThing_I _ _ _ _ _ (Or.inr (by decide)) (Or.inl (by decide)) (Or.inl (by decide)) (Or.inl (by decide))]
      exact ⟨vp_in_nI (by omega) (by decide), vp_in_nI (by omega) (by decide), gT rfl q⟩
    · repeat refine gS (by decide) ?_
      intros; contradiction
  · repeat refine gS (by decide) ?_
    intros; contradiction
theorem sv14_0 {so dl ln : Nat → Nat} {th us lm mk ch tl cl fl na s lim n a f m φ : Nat} {σ μ : Sg} {Q : Sg → Prop} (h : Vx so dl ln th us lm mk ch tl cl fl na s lim n a f 14 0 m φ σ μ) (kk : ∀ σ' μ', MR μ μ' → Rr φ σ' μ' → Q σ') : TC σ Q := by
  obtain ⟨⟨hB, hbd, hRA, hs, hW⟩, hE, h24, hcl, hfl, hC, hφ, m45, m26, m36, hV, hX⟩ := h
  have hC0 := hC
  obtain ⟨c8, c9, c3, c4, c5⟩ := hC0
  rw [show n + 1 - 1 = n by omega] at c9
  have hbd0 := hbd
  obtain ⟨g1, g2, g3, g4, g5, g6, g7, g8, g9, g10, g11⟩ := hbd0
  obtain ⟨ha, hf, hk32, hcap, hm, h22, x21, h23, x23, hk, h26, x28, -, hst⟩ := id hE
  have h22 : sI σ 22 n = nI a := h22
  have h23 : sI σ 23 n = nI f := h23
  have h26 : sI σ 26 n = nI m := h26
  have ha60 : a < 60 := Nat.lt_of_lt_of_le ha hRA.2.2.1
  obtain ⟨k', hk', hk1, r0, r1, r2, r3, r4, r5, r6, r7, r8, r9, r10, r11⟩ := hRA.2.2.2 a ha
  have ek : 14 = k' := eqN (hk.symm.trans hk1) (by omega) (by omega)
  subst ek
  have e1 : sI σ 6 3 = nI us := hB.2.2.2.2.2.2.1.1
  have e5 : sI μ 0 44 = nI fl := hB.2.2.2.2.2.2.2.1.2.2.2.2.2.1
  have hn : n < 200 := by omega
  have hcn := cnt_le (P := isCl σ μ) n
  have et : sI μ 0 26 - (1 : Int32) = nI n := subN (n + 1) 1 m26 rfl (by omega)
  have hvn : vp_in (nI n) 220 := vp_in_nI (by omega) (by decide)
  have hva : vp_in (nI a) 60 := vp_in_nI ha60 (by decide)
  have en : (nI n).toNatClampNeg = n := nI_clamp (by omega)
  have ea : (nI a).toNatClampNeg = a := nI_clamp (by omega)
  have ht0 : ¬ sI μ 0 26 = 0 := neN (n + 1) 0 m26 rfl (by omega) (by omega) (by decide)
  have hcl : Cn cl ch s (17 * (n + 1) + 15) σ μ n := hcl.no (by decide)
  have hc1 : cl = cnt (isCl σ μ) n := hcl.1
  have hc2 := hcl.2
  have hbdn : Bd th us lm mk ch tl cl s lim n := ⟨by omega, by omega, by omega, by omega, by omega, g6, g7, g8, g9, g10, g11⟩
  have hbdg : ∀ t : Int32, Bd th us lm mk ch tl cl s lim n ∧ Xv t us mk cl s n := fun t => ⟨hbdn, Xv.mk g1 (by omega)⟩
  obtain ⟨h27, p22, d1, d2, d3⟩ : sI σ 27 n = 0 ∧ sI μ 22 n = nI 0 ∧ (1 ≤ 0 → kpX 14 = true → V so dl th (sL σ 25 (3 * n)) (sI μ 24 n) (sI μ 25 n)) ∧ (2 ≤ 0 → V so dl th (sL σ 25 (3 * n + 1)) (sI μ 26 n) (sI μ 27 n)) ∧ (14 = 28 → 1 ≤ 0 → ∃ q, q < th ∧ so q = 7 ∧ sL σ 25 (3 * n) = pk 7 (nI (dl q)) ∧ sI μ 25 n = nI q) := by
    rcases hst with h | h
    · exact h
    · exact absurd h.1 (by decide)
  rw [Nat.add_zero] at hV
  have e7 : sI μ 0 6 = nI th := hB.2.2.2.2.2.2.1.2.2.2.2.2.2
  refine sv_work (j := 1) c3 hRA c9 hn h22 ha r4 h24 (by omega) r0 hB (by omega) (fun lx ly _ _ Q' q => of_none (by simp) q) ?_
  refine wk_plain hRA.1 hRA.2.2.1 c9 hn h22 ha r0 (by omega) (by omega) (by omega) (by omega) (by omega) (by omega) (by omega) (by omega) (by omega) (by omega) (by omega) (wp_hi hRA.1 hRA.2.2.1 c9 hn h22 ha (by omega) (by omega) ?_)
  unfold wX6_change
  repeat refine gS (by decide) ?_
  refine ⟨fun _ => ?_, ?_⟩
  · refine c_newLink (t := nI 6) e1 (by omega) ?_
    refine fin_give (so' := up1 so th 6) (dl' := up1 dl th us) (ln' := up1 ln th 0) (th' := th + 1) (us' := us + 1) (μ' := mVal (mLink (wI μ 0 26 (nI n)) th (sI μ 0 39) (sI μ 0 40)) (nI 6) (nI th)) hW hRA hs (hcl.w (by omega)) hfl hn hC hφ (Bs.link (s0 := 6) (μ := wI μ 0 26 (nI n)) hB g11 (by omega) hV) ⟨⟨by omega, by omega, by omega, by omega, by omega, g6, g7, g8, g9, g10, by omega⟩, Xv.mk0 (fun h => absurd (show nI 6 = 0 from h) (by decide)) (by omega) (by omega)⟩ Fc.rf.link Fm.rf.top.link.val (by omega) (fun _ h => up1_lt h) (fun _ h => up1_lt h) (Nat.le_refl _) (show sI (mLink (wI μ 0 26 (nI n)) th (sI μ 0 39) (sI μ 0 40)) 0 45 = nI s by rw [mLink_I _ _ _ _ _ _ (Or.inr (by decide)) (Or.inl (by decide)) (Or.inl (by decide)) (Or.inl (by decide))]; exact m45) (show sI (mLink (wI μ 0 26 (nI n)) th (sI μ 0 39) (sI μ 0 40)) 0 26 = nI n by rw [mLink_I _ _ _ _ _ _ (Or.inr (by decide)) (Or.inl (by decide)) (Or.inl (by decide)) (Or.inl (by decide))]; rfl) rfl (Or.inr (Or.inr ⟨th, by omega, by rw [up1_e]; omega, by rw [up1_e]; omega, by rw [up1_e]; rfl, rfl, by rw [up1_e, up1_e]⟩)) ?_ kk
    refine ms_up m36 ht0 (fun K q => m_up m26 (by omega) x21 ha60 x23 hk (by omega) p22 (by omega) (fun _ h => absurd h (by unfold isP2; omega)) (fun h _ => absurd h (by decide)) (fun _ _ => ?_))
    unfold wX11_upOf
    repeat refine gS (by decide) ?_
    refine ⟨fun _ => ?_, ?_⟩
    · unfold wX11_upOf_232 wX11_upOf_291
      rw [et]
      refine m_newThing (k := th) e7 (by omega) ?_
      have e16 : (16 : Int32) * nI th = nI (16 * th) := mulN 16 th rfl rfl
      rw [e16, nI_clamp (by omega), mThing_I _ _ _ _ _ (Or.inr (by decide)) (Or.inl (by decide)) (Or.inl (by decide)) (Or.inl (by decide)), mThing_I _ _ _ _ _ (Or.inr (by decide)) (Or.inl (by decide)) (Or.inl (by decide)) (Or.inl (by decide))]
      exact ⟨vp_in_nI (by omega) (by decide), vp_in_nI (by omega) (by decide), gF (by decide) q⟩
    · repeat refine gS (by decide) ?_
      intros; contradiction
  · repeat refine gS (by decide) ?_
    intros; contradiction
theorem sv15_1 {so dl ln : Nat → Nat} {th us lm mk ch tl cl fl na s lim n a f m φ : Nat} {σ μ : Sg} {Q : Sg → Prop} (h : Vx so dl ln th us lm mk ch tl cl fl na s lim n a f 15 1 m φ σ μ) (kk : ∀ σ' μ', MR μ μ' → Rr φ σ' μ' → Q σ') : TC σ Q := by
  obtain ⟨⟨hB, hbd, hRA, hs, hW⟩, hE, h24, hcl, hfl, hC, hφ, m45, m26, m36, hV, hX⟩ := h
  have hC0 := hC
  obtain ⟨c8, c9, c3, c4, c5⟩ := hC0
  rw [show n + 1 - 1 = n by omega] at c9
  have hbd0 := hbd
  obtain ⟨g1, g2, g3, g4, g5, g6, g7, g8, g9, g10, g11⟩ := hbd0
  obtain ⟨ha, hf, hk32, hcap, hm, h22, x21, h23, x23, hk, h26, x28, -, hst⟩ := id hE
  have h22 : sI σ 22 n = nI a := h22
  have h23 : sI σ 23 n = nI f := h23
  have h26 : sI σ 26 n = nI m := h26
  have ha60 : a < 60 := Nat.lt_of_lt_of_le ha hRA.2.2.1
  obtain ⟨k', hk', hk1, r0, r1, r2, r3, r4, r5, r6, r7, r8, r9, r10, r11⟩ := hRA.2.2.2 a ha
  have ek : 15 = k' := eqN (hk.symm.trans hk1) (by omega) (by omega)
  subst ek
  have e1 : sI σ 6 3 = nI us := hB.2.2.2.2.2.2.1.1
  have e5 : sI μ 0 44 = nI fl := hB.2.2.2.2.2.2.2.1.2.2.2.2.2.1
  have hn : n < 200 := by omega
  have hcn := cnt_le (P := isCl σ μ) n
  have et : sI μ 0 26 - (1 : Int32) = nI n := subN (n + 1) 1 m26 rfl (by omega)
  have hvn : vp_in (nI n) 220 := vp_in_nI (by omega) (by decide)
  have hva : vp_in (nI a) 60 := vp_in_nI ha60 (by decide)
  have en : (nI n).toNatClampNeg = n := nI_clamp (by omega)
  have ea : (nI a).toNatClampNeg = a := nI_clamp (by omega)
  have ht0 : ¬ sI μ 0 26 = 0 := neN (n + 1) 0 m26 rfl (by omega) (by omega) (by decide)
  have hcl : Cn cl ch s (17 * (n + 1) + 15) σ μ n := hcl.no (by decide)
  have hc1 : cl = cnt (isCl σ μ) n := hcl.1
  have hc2 := hcl.2
  have hbdn : Bd th us lm mk ch tl cl s lim n := ⟨by omega, by omega, by omega, by omega, by omega, g6, g7, g8, g9, g10, g11⟩
  have hbdg : ∀ t : Int32, Bd th us lm mk ch tl cl s lim n ∧ Xv t us mk cl s n := fun t => ⟨hbdn, Xv.mk g1 (by omega)⟩
  obtain ⟨h27, p22, d1, d2, d3⟩ : sI σ 27 n = 0 ∧ sI μ 22 n = nI 1 ∧ (1 ≤ 1 → kpX 15 = true → V so dl th (sL σ 25 (3 * n)) (sI μ 24 n) (sI μ 25 n)) ∧ (2 ≤ 1 → V so dl th (sL σ 25 (3 * n + 1)) (sI μ 26 n) (sI μ 27 n)) ∧ (15 = 28 → 1 ≤ 1 → ∃ q, q < th ∧ so q = 7 ∧ sL σ 25 (3 * n) = pk 7 (nI (dl q)) ∧ sI μ 25 n = nI q) := by
    rcases hst with h | h
    · exact h
    · exact absurd h.1 (by decide)
  have dX := d1 (by decide) (by decide)
  have eS : srt (sL σ 25 (3 * n)) = sI μ 24 n := dX.srt
  by_cases ty0 : sI μ 0 39 = 0
  · have eY : nbr (sL σ 25 (3 * n + 1)) = sI μ 0 40 := hV.num ty0
    by_cases hr : isRw (sI μ 24 n)
    · obtain ⟨k0, a1, a2, a3, a4, a5, a6⟩ := dX.row hr
      obtain ⟨b1, b2, b3, b4⟩ := hB.len a1 a3
      by_cases hi : ∃ i, i < ln k0 ∧ sI μ 0 40 = nI i
      · obtain ⟨i, hi1, hi2⟩ := hi
        obtain ⟨t1, t2, t3, t4, t5, t6⟩ := hB.place a1 a3 hi1
        refine sv_work (j := 2) c3 hRA c9 hn h22 ha r4 h24 (by omega) r0 hB (by omega) (fun lx ly hx _ Q' q => of_15 true ⟨fun _ => by rw [eS]; exact hr, fun _ => rfl⟩ ?_) ?_
        · have hl := hx (by rw [eS]; exact hr) _ a6 b3
          rw [hl, b4, eY, hi2, hV.fwt, ty0, ft_0, fth_t, f1_l rfl rfl, fp_ok hi1 (by omega)]
          exact q
        · refine wk_plain hRA.1 hRA.2.2.1 c9 hn h22 ha r0 (by omega) (by omega) (by omega) (by omega) (by omega) (by omega) (by omega) (by omega) (by omega) (by omega) (by omega) (wp_hi hRA.1 hRA.2.2.1 c9 hn h22 ha (by omega) (by omega) ?_)
          unfold wX6_change
          repeat refine gS (by decide) ?_
          refine ⟨fun _ => ?_, ?_⟩
          · refine c_number (c_cellOf ?_)
            rw [a6, eY, hi2]
            have ec : (nI (dl k0) + 1) + nI i = nI (dl k0 + 1 + i) := addN _ _ (addN _ 1 rfl rfl) rfl
            refine c_read ec e1 (by omega) t4 ?_
            refine fin_give (μ' := mVal (wI μ 0 26 (nI n)) (sI μ 6 (16 * k0 + i)) (sI μ 7 (16 * k0 + i))) hW hRA hs (hcl.w (by omega)) hfl hn hC hφ hB (hbdg _) Fc.rf Fm.rf.top.val (Nat.le_refl _) (fun _ _ => rfl) (fun _ _ => rfl) (Nat.le_refl _) m45 rfl rfl t5 ?_ kk
            refine ms_up m36 ht0 (fun K q => m_up m26 (by omega) x21 ha60 x23 hk (by omega) p22 (by omega) (fun h _ => absurd h (by decide)) (fun _ h => absurd h (by omega)) (fun _ _ => ?_))
            unfold wX11_upOf
            repeat refine gS (by decide) ?_
            refine ⟨fun _ => ?_, ?_⟩
            · rw [et, en]
              exact ⟨hvn, hvn, m_rp e5 hfl ty0 hr a5 (by omega) b1 b2 hi1 hi2 q⟩
            · repeat refine gS (by decide) ?_
              intros; contradiction
          · repeat refine gS (by decide) ?_
            intros; contradiction
      · refine sv_fail (j := 2) (e := 2) (r := 2) (c := 2) c3 hRA c9 hn h22 ha r4 h24 (by omega) r0 hB hbdn hW hs (hcl.w (by omega)) hfl hC hφ m45 (by omega) rfl (by omega) (by omega) (fun lx ly hx hy Q' q => of_15 true ⟨fun _ => by rw [eS]; exact hr, fun _ => rfl⟩ ?_) rfl ?_ kk
        · have hl := hx (by rw [eS]; exact hr) _ a6 b3
          rw [hl, b4, eY, hV.fwt, ty0, ft_0, fth_t, f1_l rfl rfl, fp_no hi (by omega)]
          exact q

        · refine ms_up m36 ht0 (fun K q => m_up m26 (by omega) x21 ha60 x23 hk (by omega) p22 (by omega) (fun h _ => absurd h (by decide)) (fun _ h => absurd h (by omega)) (fun _ _ => ?_))
          unfold wX11_upOf
          repeat refine gS (by decide) ?_
          refine ⟨fun _ => ?_, ?_⟩
          · rw [et, en]
            exact ⟨hvn, hvn, m_rp_i e5 hfl ty0 hr a5 (by omega) b1 b2 hi q⟩
          · repeat refine gS (by decide) ?_
            intros; contradiction
    · obtain ⟨e, he1, he8, he7, hee⟩ := ff_e (sI μ 24 n)
      refine sv_fail (j := 2) (e := e) (r := ff (sI μ 24 n)) (c := ff (sI μ 24 n)) c3 hRA c9 hn h22 ha r4 h24 (by omega) r0 hB hbdn hW hs (hcl.w (by omega)) hfl hC hφ m45 (by omega) hee he1 he8 (fun lx ly _ _ Q' q => of_15 false ⟨fun h => absurd h (by decide), fun h => absurd (by rw [← eS]; exact h) hr⟩ ?_) (if_neg (ff_7 _)) ?_ kk
      · rw [hV.fwt, ty0, ft_0, dX.fthn, f1_m rfl (ff_n0 _)]; exact q
      · rw [← hee]
        refine ms_up m36 ht0 (fun K q => m_up m26 (by omega) x21 ha60 x23 hk (by omega) p22 (by omega) (fun h _ => absurd h (by decide)) (fun _ h => absurd h (by omega)) (fun _ _ => ?_))
        unfold wX11_upOf
        repeat refine gS (by decide) ?_
        refine ⟨fun _ => ?_, ?_⟩
        · rw [et, en]
          exact ⟨hvn, hvn, m_rp_x e5 hfl ty0 hr q⟩
        · repeat refine gS (by decide) ?_
          intros; contradiction
  · obtain ⟨b, hb⟩ := bool_of (isRw (srt (sL σ 25 (3 * n))))
    obtain ⟨e, he1, he8, he7, hee⟩ := ft_e ty0
    refine sv_fail (j := 2) (e := e) (r := ft (sI μ 0 39)) (c := ft (sI μ 0 39)) c3 hRA c9 hn h22 ha r4 h24 (by omega) r0 hB hbdn hW hs (hcl.w (by omega)) hfl hC hφ m45 (by omega) hee he1 he8 (fun lx ly _ _ Q' q => of_15 b hb ?_) (if_neg (ft_7 ty0)) ?_ kk
    · rw [hV.fwt, f1_n (ft_n0 ty0)]; exact q
    · rw [← hee]
      refine ms_up m36 ht0 (fun K q => m_up m26 (by omega) x21 ha60 x23 hk (by omega) p22 (by omega) (fun h _ => absurd h (by decide)) (fun _ h => absurd h (by omega)) (fun _ _ => ?_))
      unfold wX11_upOf
      repeat refine gS (by decide) ?_
      refine ⟨fun _ => ?_, ?_⟩
      · rw [et, en]
        exact ⟨hvn, hvn, m_rp_y e5 hfl ty0 q⟩
      · repeat refine gS (by decide) ?_
        intros; contradiction
theorem sv17_0 {so dl ln : Nat → Nat} {th us lm mk ch tl cl fl na s lim n a f m φ : Nat} {σ μ : Sg} {Q : Sg → Prop} (h : Vx so dl ln th us lm mk ch tl cl fl na s lim n a f 17 0 m φ σ μ) (kk : ∀ σ' μ', MR μ μ' → Rr φ σ' μ' → Q σ') : TC σ Q := by
  obtain ⟨⟨hB, hbd, hRA, hs, hW⟩, hE, h24, hcl, hfl, hC, hφ, m45, m26, m36, hV, hX⟩ := h
  have hC0 := hC
  obtain ⟨c8, c9, c3, c4, c5⟩ := hC0
  rw [show n + 1 - 1 = n by omega] at c9
  have hbd0 := hbd
  obtain ⟨g1, g2, g3, g4, g5, g6, g7, g8, g9, g10, g11⟩ := hbd0
  obtain ⟨ha, hf, hk32, hcap, hm, h22, x21, h23, x23, hk, h26, x28, -, hst⟩ := id hE
  have h22 : sI σ 22 n = nI a := h22
  have h23 : sI σ 23 n = nI f := h23
  have h26 : sI σ 26 n = nI m := h26
  have ha60 : a < 60 := Nat.lt_of_lt_of_le ha hRA.2.2.1
  obtain ⟨k', hk', hk1, r0, r1, r2, r3, r4, r5, r6, r7, r8, r9, r10, r11⟩ := hRA.2.2.2 a ha
  have ek : 17 = k' := eqN (hk.symm.trans hk1) (by omega) (by omega)
  subst ek
  have e1 : sI σ 6 3 = nI us := hB.2.2.2.2.2.2.1.1
  have e5 : sI μ 0 44 = nI fl := hB.2.2.2.2.2.2.2.1.2.2.2.2.2.1
  have hn : n < 200 := by omega
  have hcn := cnt_le (P := isCl σ μ) n
  have et : sI μ 0 26 - (1 : Int32) = nI n := subN (n + 1) 1 m26 rfl (by omega)
  have hvn : vp_in (nI n) 220 := vp_in_nI (by omega) (by decide)
  have hva : vp_in (nI a) 60 := vp_in_nI ha60 (by decide)
  have en : (nI n).toNatClampNeg = n := nI_clamp (by omega)
  have ea : (nI a).toNatClampNeg = a := nI_clamp (by omega)
  have ht0 : ¬ sI μ 0 26 = 0 := neN (n + 1) 0 m26 rfl (by omega) (by omega) (by decide)
  have hcl : Cn cl ch s (17 * (n + 1) + 15) σ μ n := hcl.no (by decide)
  have hc1 : cl = cnt (isCl σ μ) n := hcl.1
  have hc2 := hcl.2
  have hbdn : Bd th us lm mk ch tl cl s lim n := ⟨by omega, by omega, by omega, by omega, by omega, g6, g7, g8, g9, g10, g11⟩
  have hbdg : ∀ t : Int32, Bd th us lm mk ch tl cl s lim n ∧ Xv t us mk cl s n := fun t => ⟨hbdn, Xv.mk g1 (by omega)⟩
  obtain ⟨h27, p22, d1, d2, d3⟩ : sI σ 27 n = 0 ∧ sI μ 22 n = nI 0 ∧ (1 ≤ 0 → kpX 17 = true → V so dl th (sL σ 25 (3 * n)) (sI μ 24 n) (sI μ 25 n)) ∧ (2 ≤ 0 → V so dl th (sL σ 25 (3 * n + 1)) (sI μ 26 n) (sI μ 27 n)) ∧ (17 = 28 → 1 ≤ 0 → ∃ q, q < th ∧ so q = 7 ∧ sL σ 25 (3 * n) = pk 7 (nI (dl q)) ∧ sI μ 25 n = nI q) := by
    rcases hst with h | h
    · exact h
    · exact absurd h.1 (by decide)
  rw [Nat.add_zero] at hV
  have eS : srt (sL σ 25 (3 * n)) = sI μ 0 39 := hV.srt
  by_cases hr : isLk (sI μ 0 39)
  · obtain ⟨k0, a1, a2, a3, a4, a5, a6⟩ := hV.lnk hr
    obtain ⟨t2, t3, t4, t5⟩ := hB.held a1 a2 a3
    refine sv_work (j := 1) c3 hRA c9 hn h22 ha r4 h24 (by omega) r0 hB (by omega) (fun lx ly hx _ Q' q => of_link (by omega) true ⟨fun _ => by rw [eS]; exact hr, fun _ => rfl⟩ q) ?_
    refine wk_plain hRA.1 hRA.2.2.1 c9 hn h22 ha r0 (by omega) (by omega) (by omega) (by omega) (by omega) (by omega) (by omega) (by omega) (by omega) (by omega) (by omega) (wp_hi hRA.1 hRA.2.2.1 c9 hn h22 ha (by omega) (by omega) ?_)
    unfold wX6_change
    repeat refine gS (by decide) ?_
    refine ⟨fun _ => ?_, ?_⟩
    · refine c_number ?_
      refine c_read a6 e1 (by omega) t4 ?_
      refine fin_give (μ' := mVal (wI μ 0 26 (nI n)) (sI μ 6 (16 * k0)) (sI μ 7 (16 * k0))) hW hRA hs (hcl.w (by omega)) hfl hn hC hφ hB (hbdg _) Fc.rf Fm.rf.top.val (Nat.le_refl _) (fun _ _ => rfl) (fun _ _ => rfl) (Nat.le_refl _) m45 rfl rfl t5 ?_ kk
      refine ms_up m36 ht0 (fun K q => m_up m26 (by omega) x21 ha60 x23 hk (by omega) p22 (by omega) (fun _ h => absurd h (by unfold isP2; omega)) (fun h _ => absurd h (by decide)) (fun _ _ => ?_))
      unfold wX11_upOf
      repeat refine gS (by decide) ?_
      refine ⟨fun _ => ?_, ?_⟩
      · rw [et]
        refine m_isLink e5 hfl (fun _ => gF ne10 ?_) (fun g => absurd hr g)
        have e16 : (16 : Int32) * sI (wI μ 0 26 (nI n)) 0 40 = nI (16 * k0) := mulN 16 k0 rfl a5
        rw [e16, nI_clamp (by omega)]
        exact ⟨vp_in_nI (by omega) (by decide), vp_in_nI (by omega) (by decide), q⟩
      · repeat refine gS (by decide) ?_
        intros; contradiction
    · repeat refine gS (by decide) ?_
      intros; contradiction
  · obtain ⟨e, he1, he8, he7, hee⟩ := ff_e (sI μ 0 39)
    refine sv_fail (j := 1) (e := e) (r := ff (sI μ 0 39)) (c := ff (sI μ 0 39)) c3 hRA c9 hn h22 ha r4 h24 (by omega) r0 hB hbdn hW hs (hcl.w (by omega)) hfl hC hφ m45 (by omega) hee he1 he8 (fun lx ly _ _ Q' q => of_link (by omega) false ⟨fun h => absurd h (by decide), fun h => absurd (by rw [← eS]; exact h) hr⟩ ?_) (if_neg (ff_7 _)) ?_ kk
    · rw [hV.fthn]; exact q
    · rw [← hee]
      refine ms_up m36 ht0 (fun K q => m_up m26 (by omega) x21 ha60 x23 hk (by omega) p22 (by omega) (fun _ h => absurd h (by unfold isP2; omega)) (fun h _ => absurd h (by decide)) (fun _ _ => ?_))
      unfold wX11_upOf
      repeat refine gS (by decide) ?_
      refine ⟨fun _ => ?_, ?_⟩
      · rw [et]
        exact m_isLink e5 hfl (fun g => absurd g hr) (fun _ => gT rfl q)
      · repeat refine gS (by decide) ?_
        intros; contradiction
theorem sv18_1 {so dl ln : Nat → Nat} {th us lm mk ch tl cl fl na s lim n a f m φ : Nat} {σ μ : Sg} {Q : Sg → Prop} (h : Vx so dl ln th us lm mk ch tl cl fl na s lim n a f 18 1 m φ σ μ) (kk : ∀ σ' μ', MR μ μ' → Rr φ σ' μ' → Q σ') : TC σ Q := by
  obtain ⟨⟨hB, hbd, hRA, hs, hW⟩, hE, h24, hcl, hfl, hC, hφ, m45, m26, m36, hV, hX⟩ := h
  have hC0 := hC
  obtain ⟨c8, c9, c3, c4, c5⟩ := hC0
  rw [show n + 1 - 1 = n by omega] at c9
  have hbd0 := hbd
  obtain ⟨g1, g2, g3, g4, g5, g6, g7, g8, g9, g10, g11⟩ := hbd0
  obtain ⟨ha, hf, hk32, hcap, hm, h22, x21, h23, x23, hk, h26, x28, -, hst⟩ := id hE
  have h22 : sI σ 22 n = nI a := h22
  have h23 : sI σ 23 n = nI f := h23
  have h26 : sI σ 26 n = nI m := h26
  have ha60 : a < 60 := Nat.lt_of_lt_of_le ha hRA.2.2.1
  obtain ⟨k', hk', hk1, r0, r1, r2, r3, r4, r5, r6, r7, r8, r9, r10, r11⟩ := hRA.2.2.2 a ha
  have ek : 18 = k' := eqN (hk.symm.trans hk1) (by omega) (by omega)
  subst ek
  have e1 : sI σ 6 3 = nI us := hB.2.2.2.2.2.2.1.1
  have e5 : sI μ 0 44 = nI fl := hB.2.2.2.2.2.2.2.1.2.2.2.2.2.1
  have hn : n < 200 := by omega
  have hcn := cnt_le (P := isCl σ μ) n
  have et : sI μ 0 26 - (1 : Int32) = nI n := subN (n + 1) 1 m26 rfl (by omega)
  have hvn : vp_in (nI n) 220 := vp_in_nI (by omega) (by decide)
  have hva : vp_in (nI a) 60 := vp_in_nI ha60 (by decide)
  have en : (nI n).toNatClampNeg = n := nI_clamp (by omega)
  have ea : (nI a).toNatClampNeg = a := nI_clamp (by omega)
  have ht0 : ¬ sI μ 0 26 = 0 := neN (n + 1) 0 m26 rfl (by omega) (by omega) (by decide)
  have hcl : Cn cl ch s (17 * (n + 1) + 15) σ μ n := hcl.no (by decide)
  have hc1 : cl = cnt (isCl σ μ) n := hcl.1
  have hc2 := hcl.2
  have hbdn : Bd th us lm mk ch tl cl s lim n := ⟨by omega, by omega, by omega, by omega, by omega, g6, g7, g8, g9, g10, g11⟩
  have hbdg : ∀ t : Int32, Bd th us lm mk ch tl cl s lim n ∧ Xv t us mk cl s n := fun t => ⟨hbdn, Xv.mk g1 (by omega)⟩
  obtain ⟨h27, p22, d1, d2, d3⟩ : sI σ 27 n = 0 ∧ sI μ 22 n = nI 1 ∧ (1 ≤ 1 → kpX 18 = true → V so dl th (sL σ 25 (3 * n)) (sI μ 24 n) (sI μ 25 n)) ∧ (2 ≤ 1 → V so dl th (sL σ 25 (3 * n + 1)) (sI μ 26 n) (sI μ 27 n)) ∧ (18 = 28 → 1 ≤ 1 → ∃ q, q < th ∧ so q = 7 ∧ sL σ 25 (3 * n) = pk 7 (nI (dl q)) ∧ sI μ 25 n = nI q) := by
    rcases hst with h | h
    · exact h
    · exact absurd h.1 (by decide)
  have dX := d1 (by decide) (by decide)
  have eS : srt (sL σ 25 (3 * n)) = sI μ 24 n := dX.srt
  by_cases hr : isLk (sI μ 24 n)
  · obtain ⟨k0, a1, a2, a3, a4, a5, a6⟩ := dX.lnk hr
    obtain ⟨t2, t3, t4, t5⟩ := hB.held a1 a2 a3
    refine sv_work (j := 2) c3 hRA c9 hn h22 ha r4 h24 (by omega) r0 hB (by omega) (fun lx ly hx _ Q' q => of_link (by omega) true ⟨fun _ => by rw [eS]; exact hr, fun _ => rfl⟩ q) ?_
    refine wk_plain hRA.1 hRA.2.2.1 c9 hn h22 ha r0 (by omega) (by omega) (by omega) (by omega) (by omega) (by omega) (by omega) (by omega) (by omega) (by omega) (by omega) (wp_hi hRA.1 hRA.2.2.1 c9 hn h22 ha (by omega) (by omega) ?_)
    unfold wX6_change
    repeat refine gS (by decide) ?_
    refine ⟨fun _ => ?_, ?_⟩
    · refine c_number ?_
      refine c_put a6 e1 (by omega) t4 hB.2.2.2.2.2.2.1.2.1 (by omega) ?_
      refine fin_give (so' := so) (dl' := dl) (ln' := ln) (th' := th) (us' := us) (lm' := lm) (mk' := mk) (tl' := tl) (cl' := cl) (ch' := ch + 1) (μ' := mWrite (wI μ 0 26 (nI n)) ch (8 + 16 * k0) (sI μ 0 39) (sI μ 0 40)) hW hRA hs (hcl.w (by omega)) hfl hn hC hφ ?_ ⟨⟨by omega, by omega, by omega, by omega, by omega, g6, g7, g8, g9, g10, g11⟩, Xv.mk g1 (by omega)⟩ Fc.rf.write Fm.rf.top.write (Nat.le_refl _) (fun _ _ => rfl) (fun _ _ => rfl) (Nat.le_refl _) (show sI (mWrite (wI μ 0 26 (nI n)) ch (8 + 16 * k0) (sI μ 0 39) (sI μ 0 40)) 0 45 = _ by rw [mWrite_I _ _ _ _ _ _ _ (by decide) (by decide) (by decide) (by decide) (by decide) (by decide) (by decide) (Or.inr (by decide))]; exact m45) (show sI (mWrite (wI μ 0 26 (nI n)) ch (8 + 16 * k0) (sI μ 0 39) (sI μ 0 40)) 0 26 = _ by rw [mWrite_I _ _ _ _ _ _ _ (by decide) (by decide) (by decide) (by decide) (by decide) (by decide) (by decide) (Or.inr (by decide))]; exact rfl) (show sI (mWrite (wI μ 0 26 (nI n)) ch (8 + 16 * k0) (sI μ 0 39) (sI μ 0 40)) 0 36 = _ by rw [mWrite_I _ _ _ _ _ _ _ (by decide) (by decide) (by decide) (by decide) (by decide) (by decide) (by decide) (Or.inr (by decide))]; exact m36) ?_ ?_ kk
      · have hb := Bs.write (w := 8 + 16 * k0) (μ := wI μ 0 26 (nI n)) hB t2 hV (typ_held a2)
        rw [t3] at hb
        exact hb
      · rw [mWrite_I _ _ _ _ _ _ _ (by decide) (by decide) (by decide) (by decide) (by decide) (by decide) (by decide) (Or.inr (by decide)), mWrite_I _ _ _ _ _ _ _ (by decide) (by decide) (by decide) (by decide) (by decide) (by decide) (by decide) (Or.inr (by decide))]
        exact hV
      · refine ms_up m36 ht0 (fun K q => m_up m26 (by omega) x21 ha60 x23 hk (by omega) p22 (by omega) (fun h _ => absurd h (by decide)) (fun _ h => absurd h (by omega)) (fun _ _ => ?_))
        unfold wX11_upOf
        repeat refine gS (by decide) ?_
        refine ⟨fun _ => ?_, ?_⟩
        · rw [et, en]
          refine ⟨hvn, m_isLink e5 hfl (fun _ => gF ne10 ⟨hvn, ?_⟩) (fun g => absurd hr g)⟩
          have e16 : (8 : Int32) + (16 : Int32) * sI (wI μ 0 26 (nI n)) 25 n = nI (8 + 16 * k0) := addN 8 (16 * k0) rfl (mulN 16 k0 rfl a5)
          exact m_write e16 (by omega) hB.2.2.2.2.2.2.1.2.2.1 (by omega) q
        · repeat refine gS (by decide) ?_
          intros; contradiction
    · repeat refine gS (by decide) ?_
      intros; contradiction
  · obtain ⟨e, he1, he8, he7, hee⟩ := ff_e (sI μ 24 n)
    refine sv_fail (j := 2) (e := e) (r := ff (sI μ 24 n)) (c := ff (sI μ 24 n)) c3 hRA c9 hn h22 ha r4 h24 (by omega) r0 hB hbdn hW hs (hcl.w (by omega)) hfl hC hφ m45 (by omega) hee he1 he8 (fun lx ly _ _ Q' q => of_link (by omega) false ⟨fun h => absurd h (by decide), fun h => absurd (by rw [← eS]; exact h) hr⟩ ?_) (if_neg (ff_7 _)) ?_ kk
    · rw [dX.fthn]; exact q
    · rw [← hee]
      refine ms_up m36 ht0 (fun K q => m_up m26 (by omega) x21 ha60 x23 hk (by omega) p22 (by omega) (fun h _ => absurd h (by decide)) (fun _ h => absurd h (by omega)) (fun _ _ => ?_))
      unfold wX11_upOf
      repeat refine gS (by decide) ?_
      refine ⟨fun _ => ?_, ?_⟩
      · rw [et, en]
        exact ⟨hvn, m_isLink e5 hfl (fun g => absurd g hr) (fun _ => gT rfl q)⟩
      · repeat refine gS (by decide) ?_
        intros; contradiction
theorem sv20_0 {so dl ln : Nat → Nat} {th us lm mk ch tl cl fl na s lim n a f m φ : Nat} {σ μ : Sg} {Q : Sg → Prop} (h : Vx so dl ln th us lm mk ch tl cl fl na s lim n a f 20 0 m φ σ μ) (kk : ∀ σ' μ', MR μ μ' → Rr φ σ' μ' → Q σ') : TC σ Q := by
  obtain ⟨⟨hB, hbd, hRA, hs, hW⟩, hE, h24, hcl, hfl, hC, hφ, m45, m26, m36, hV, hX⟩ := h
  have hC0 := hC
  obtain ⟨c8, c9, c3, c4, c5⟩ := hC0
  rw [show n + 1 - 1 = n by omega] at c9
  have hbd0 := hbd
  obtain ⟨g1, g2, g3, g4, g5, g6, g7, g8, g9, g10, g11⟩ := hbd0
  obtain ⟨ha, hf, hk32, hcap, hm, h22, x21, h23, x23, hk, h26, x28, -, hst⟩ := id hE
  have h22 : sI σ 22 n = nI a := h22
  have h23 : sI σ 23 n = nI f := h23
  have h26 : sI σ 26 n = nI m := h26
  have ha60 : a < 60 := Nat.lt_of_lt_of_le ha hRA.2.2.1
  obtain ⟨k', hk', hk1, r0, r1, r2, r3, r4, r5, r6, r7, r8, r9, r10, r11⟩ := hRA.2.2.2 a ha
  have ek : 20 = k' := eqN (hk.symm.trans hk1) (by omega) (by omega)
  subst ek
  have e1 : sI σ 6 3 = nI us := hB.2.2.2.2.2.2.1.1
  have e5 : sI μ 0 44 = nI fl := hB.2.2.2.2.2.2.2.1.2.2.2.2.2.1
  have hn : n < 200 := by omega
  have hcn := cnt_le (P := isCl σ μ) n
  have et : sI μ 0 26 - (1 : Int32) = nI n := subN (n + 1) 1 m26 rfl (by omega)
  have hvn : vp_in (nI n) 220 := vp_in_nI (by omega) (by decide)
  have hva : vp_in (nI a) 60 := vp_in_nI ha60 (by decide)
  have en : (nI n).toNatClampNeg = n := nI_clamp (by omega)
  have ea : (nI a).toNatClampNeg = a := nI_clamp (by omega)
  have ht0 : ¬ sI μ 0 26 = 0 := neN (n + 1) 0 m26 rfl (by omega) (by omega) (by decide)
  have hcl : Cn cl ch s (17 * (n + 1) + 15) σ μ n := hcl.no (by decide)
  have hc1 : cl = cnt (isCl σ μ) n := hcl.1
  have hc2 := hcl.2
  have hbdn : Bd th us lm mk ch tl cl s lim n := ⟨by omega, by omega, by omega, by omega, by omega, g6, g7, g8, g9, g10, g11⟩
  have hbdg : ∀ t : Int32, Bd th us lm mk ch tl cl s lim n ∧ Xv t us mk cl s n := fun t => ⟨hbdn, Xv.mk g1 (by omega)⟩
  obtain ⟨h27, p22, d1, d2, d3⟩ : sI σ 27 n = 0 ∧ sI μ 22 n = nI 0 ∧ (1 ≤ 0 → kpX 20 = true → V so dl th (sL σ 25 (3 * n)) (sI μ 24 n) (sI μ 25 n)) ∧ (2 ≤ 0 → V so dl th (sL σ 25 (3 * n + 1)) (sI μ 26 n) (sI μ 27 n)) ∧ (20 = 28 → 1 ≤ 0 → ∃ q, q < th ∧ so q = 7 ∧ sL σ 25 (3 * n) = pk 7 (nI (dl q)) ∧ sI μ 25 n = nI q) := by
    rcases hst with h | h
    · exact h
    · exact absurd h.1 (by decide)
  rw [Nat.add_zero] at hV
  by_cases tx0 : sI μ 0 39 = 0
  · refine sv_fail (j := 1) (e := 7) (r := 7) (c := sI μ 0 40) c3 hRA c9 hn h22 ha r4 h24 (by omega) r0 hB hbdn hW hs (hcl.w (by omega)) hfl hC hφ m45 (by omega) rfl (by omega) (by omega) (fun lx ly hx hy Q' q => of_20 ?_) (by rw [if_pos rfl]; exact hV.num tx0) ?_ kk
    · rw [hV.fwt, tx0, ft_0, f1_m rfl (by decide)]
      exact q

    · refine ms_up m36 ht0 (fun K q => m_up m26 (by omega) x21 ha60 x23 hk (by omega) p22 (by omega) (fun _ h => absurd h (by unfold isP2; omega)) (fun h _ => absurd h (by decide)) (fun _ _ => ?_))
      unfold wX11_upOf
      repeat refine gS (by decide) ?_
      refine ⟨fun _ => ?_, ?_⟩
      · rw [et]
        exact m_isWhole e5 hfl (fun _ => gF ne10 (m_fail e5 hfl q)) (fun g => absurd tx0 g)
      · repeat refine gS (by decide) ?_
        intros; contradiction
  · obtain ⟨e, he1, he8, he7, hee⟩ := ft_e tx0
    refine sv_fail (j := 1) (e := e) (r := ft (sI μ 0 39)) (c := ft (sI μ 0 39)) c3 hRA c9 hn h22 ha r4 h24 (by omega) r0 hB hbdn hW hs (hcl.w (by omega)) hfl hC hφ m45 (by omega) hee he1 he8 (fun lx ly _ _ Q' q => of_20 ?_) (if_neg (ft_7 tx0)) ?_ kk
    · rw [hV.fwt, f1_n (ft_n0 tx0)]; exact q
    · rw [← hee]
      refine ms_up m36 ht0 (fun K q => m_up m26 (by omega) x21 ha60 x23 hk (by omega) p22 (by omega) (fun _ h => absurd h (by unfold isP2; omega)) (fun h _ => absurd h (by decide)) (fun _ _ => ?_))
      unfold wX11_upOf
      repeat refine gS (by decide) ?_
      refine ⟨fun _ => ?_, ?_⟩
      · rw [et]
        exact m_isWhole e5 hfl (fun g => absurd g tx0) (fun _ => gT rfl q)
      · repeat refine gS (by decide) ?_
        intros; contradiction
