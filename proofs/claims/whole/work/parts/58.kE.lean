theorem Fc.slots {σ σ' : Sg} {n c : Nat} (h : Fc σ σ' n) : ∀ z, Fc σ (cSlots σ' c z) n
  | 0 => h
  | z + 1 => (Fc.slots h z).w2 (by decide)
theorem sv25_0 {so dl ln : Nat → Nat} {th us lm mk ch tl cl fl na s lim n a f m φ : Nat} {σ μ : Sg} {Q : Sg → Prop} (h : Vx so dl ln th us lm mk ch tl cl fl na s lim n a f 25 0 m φ σ μ) (kk : ∀ σ' μ', MR μ μ' → Rr φ σ' μ' → Q σ') : TC σ Q := by
  obtain ⟨⟨hB, hbd, hRA, hs, hW⟩, hE, h24, hcl, hfl, hC, hφ, m45, m26, m36, hV, hX⟩ := h
  have hC0 := hC
  obtain ⟨c8, c9, c3, c4, c5⟩ := hC0
  rw [show n + 1 - 1 = n by omega] at c9
  have hbd0 := hbd
  obtain ⟨g1, g2, g3, g4, g5, g6, g7, g8, g9, g10, g11⟩ := hbd0
  obtain ⟨ha, hf, hk32, hcap, hm, h22, x21, h23, x23, hk, h26, x28, -, hst⟩ := id hE
  have h22 : sI σ 22 n = nI a := h22
  have h23 : sI σ 23 n = nI f := h23
  have h26 : sI σ 26 n = nI m := h26
  have ha60 : a < 60 := Nat.lt_of_lt_of_le ha hRA.2.2.1
  obtain ⟨k', hk', hk1, r0, r1, r2, r3, r4, r5, r6, r7, r8, r9, r10, r11⟩ := hRA.2.2.2 a ha
  have ek : 25 = k' := eqN (hk.symm.trans hk1) (by omega) (by omega)
  subst ek
  have e1 : sI σ 6 3 = nI us := hB.2.2.2.2.2.2.1.1
  have e5 : sI μ 0 44 = nI fl := hB.2.2.2.2.2.2.2.1.2.2.2.2.2.1
  have hn : n < 200 := by omega
  have hcn := cnt_le (P := isCl σ μ) n
  have et : sI μ 0 26 - (1 : Int32) = nI n := subN (n + 1) 1 m26 rfl (by omega)
  have hvn : vp_in (nI n) 220 := vp_in_nI (by omega) (by decide)
  have hva : vp_in (nI a) 60 := vp_in_nI ha60 (by decide)
  have en : (nI n).toNatClampNeg = n := nI_clamp (by omega)
  have ea : (nI a).toNatClampNeg = a := nI_clamp (by omega)
  have ht0 : ¬ sI μ 0 26 = 0 := neN (n + 1) 0 m26 rfl (by omega) (by omega) (by decide)
  have hcl : Cn cl ch s (17 * (n + 1) + 15) σ μ n := hcl.no (by decide)
  have hc1 : cl = cnt (isCl σ μ) n := hcl.1
  have hc2 := hcl.2
  have hbdn : Bd th us lm mk ch tl cl s lim n := ⟨by omega, by omega, by omega, by omega, by omega, g6, g7, g8, g9, g10, g11⟩
  have hbdg : ∀ t : Int32, Bd th us lm mk ch tl cl s lim n ∧ Xv t us mk cl s n := fun t => ⟨hbdn, Xv.mk g1 (by omega)⟩
  obtain ⟨h27, p22, d1, d2, d3⟩ : sI σ 27 n = 0 ∧ sI μ 22 n = nI 0 ∧ (1 ≤ 0 → kpX 25 = true → V so dl th (sL σ 25 (3 * n)) (sI μ 24 n) (sI μ 25 n)) ∧ (2 ≤ 0 → V so dl th (sL σ 25 (3 * n + 1)) (sI μ 26 n) (sI μ 27 n)) ∧ (25 = 28 → 1 ≤ 0 → ∃ q, q < th ∧ so q = 7 ∧ sL σ 25 (3 * n) = pk 7 (nI (dl q)) ∧ sI μ 25 n = nI q) := by
    rcases hst with h | h
    · exact h
    · exact absurd h.1 (by decide)
  rw [Nat.add_zero] at hV
  obtain ⟨z, hz60, hz⟩ := r11 rfl
  have hx2 := hX.2
  have e58 : sI σ 5 8 = nI cl := hB.2.2.2.2.2.2.2.1.2.2.1
  have e47 : sI μ 0 47 = nI cl := hB.2.2.2.2.2.2.2.1.2.2.2.1
  have c9' : sI σ 21 9 = nI (n + 1 - 1) := c9
  refine sv_work (j := 1) c3 hRA c9 hn h22 ha r4 h24 (by omega) r0 hB (by omega) (fun lx ly _ _ Q' q => of_none (by simp) q) ?_
  refine wk_sel hRA.1 hRA.2.2.1 c9 hn h22 ha r0 ?_ (by omega)
  refine ⟨fun q => absurd q (by decide), fun q => absurd q (by decide), fun q => absurd q (by decide), fun q => absurd q (by decide), fun q => absurd q (by decide), fun q => absurd q (by decide), fun _ => ?_, fun q => absurd q (by decide), fun q => absurd q (by decide), fun q => absurd q (by decide)⟩
  unfold wX6_call
  refine c_stage c9 hn (gT h24 (c_act c9 hn ?_))
  rw [h22]
  refine c_given hRA.1 hRA.2.2.1 ha (w := 1) rfl (by omega) ?_
  rw [r1, hz]
  unfold wX6_enter
  by_cases hzn : z < na
  · refine c_has hRA.1 hRA.2.2.1 hzn (gF ne10 ?_)
    by_cases h8 : cl < 8
    · refine gT (by rw [e58]; exact ltN cl 8 rfl rfl h8 (by omega)) ?_
      rw [e58, nI_1]
      have e4 : sI σ 12 1 = nI mk := hB.2.2.2.2.2.2.1.2.2.2.1
      have e15 : sI μ 0 15 = nI mk := hB.2.2.2.2.2.2.1.2.2.2.2.1
      refine c_open (σ := wI σ 5 8 (nI (cl + 1))) e4 (by omega) ?_
      have c9o : sI (cOpen (wI σ 5 8 (nI (cl + 1))) mk) 21 9 = nI n := by
        unfold cOpen
        rw [cSlots_I]
        exact c9
      refine c_value (w := 0) c9o hn rfl (by omega) ?_
      have eo : sL (cOpen (wI σ 5 8 (nI (cl + 1))) mk) 25 (3 * n + 0) = sL σ 25 (3 * n) := by
        unfold cOpen
        rw [cSlots_L, if_neg (by omega), Nat.add_zero]
        rfl
      rw [eo]
      have e4o : sI (cOpen (wI σ 5 8 (nI (cl + 1))) mk) 12 1 = nI (mk + 1) := by
        unfold cOpen
        rw [cSlots_I]
        rfl
      refine c_fwrite (j := 0) e4o (by omega) (by omega) rfl (by omega) ?_
      have hB1 : Bs so dl ln th us lm mk ch tl (cl + 1) fl na lim (wI σ 5 8 (nI (cl + 1))) (wI μ 0 47 (nI (cl + 1))) := by
        obtain ⟨b1, b2, b3, b4, b5, b6, b7, ⟨d1, d2, d3, d4, d5, d6, d7, d8⟩, b9, b10⟩ := hB
        exact ⟨b1, b2, b3, b4, b5, b6, b7, ⟨d1, d2, rfl, rfl, d5, d6, d7, d8⟩, b9, b10⟩
      have hB2 := Bs.slot (j := 8 * mk + 0) hB1.opn hV
      have em : ∀ o x, (o = 0 ∧ x ≠ 15 ∧ x ≠ 47) ∨ (1 ≤ o ∧ o ≤ 12) ∨ 15 ≤ o → sI (mFrame (wI μ 0 47 (nI (cl + 1))) mk) o x = sI μ o x := by
        intro o x ho
        unfold mFrame
        rw [mFill_I _ _ _ _ _ _ _ (by decide), if_neg (by omega), if_neg (by omega), sI_wI, if_neg (by omega), sI_wI, if_neg (by omega)]
      have fc : Fc σ (wL (cOpen (wI σ 5 8 (nI (cl + 1))) mk) 13 (8 * mk + 0) (sL σ 25 (3 * n))) n := by
        refine Fc.w2 ?_ (by decide)
        have h1 : Fc σ (wI (wI σ 5 8 (nI (cl + 1))) 12 1 (nI (mk + 1))) n := (Fc.rf.w1 (Or.inr (Or.inl (by decide)))).w1 (Or.inr (Or.inr (Or.inl (by decide))))
        exact Fc.slots h1 8
      have fm : Fm μ (mStart (wI (wI (wI (mFrame (wI μ 0 47 (nI (cl + 1))) mk) 13 (8 * mk) (sI μ 0 39)) 14 (8 * mk) (sI μ 0 40)) 22 n 1) (nI z) (nI mk)) n := by
        refine Fm.start ((Fm.w1 (Fm.w1 ?_ (Or.inr (Or.inl (by decide)))) (Or.inr (Or.inl (by decide)))).w1 (Or.inr (Or.inr ⟨by decide, Nat.le_refl _⟩)))
        exact Fm.rf.eq (fun o x ho => em o x (by omega))
      have eE : EntP so dl th na (mk + 1) (wL (cOpen (wI σ 5 8 (nI (cl + 1))) mk) 13 (8 * mk + 0) (sL σ 25 (3 * n))) (mStart (wI (wI (wI (mFrame (wI μ 0 47 (nI (cl + 1))) mk) 13 (8 * mk) (sI μ 0 39)) 14 (8 * mk) (sI μ 0 40)) 22 n 1) (nI z) (nI mk)) n a f 25 1 m := by
        have ec : ∀ o, 22 ≤ o → sI (wL (cOpen (wI σ 5 8 (nI (cl + 1))) mk) 13 (8 * mk + 0) (sL σ 25 (3 * n))) o n = sI σ o n := by
          intro o ho
          show sI (cOpen (wI σ 5 8 (nI (cl + 1))) mk) o n = sI σ o n
          unfold cOpen
          rw [cSlots_I, sI_wI, if_neg (by omega), sI_wI, if_neg (by omega)]
        have eM : ∀ o, 21 ≤ o → o ≠ 22 → sI (mStart (wI (wI (wI (mFrame (wI μ 0 47 (nI (cl + 1))) mk) 13 (8 * mk) (sI μ 0 39)) 14 (8 * mk) (sI μ 0 40)) 22 n 1) (nI z) (nI mk)) o n = sI μ o n := by
          intro o ho h22
          unfold mStart
          rw [i_o (by omega), i_o (by omega), i_o (by omega), i_o (by omega), i_o (by omega), i_o (by omega)]
          exact em o n (by omega)
        refine ent_mk (j' := 1) hE (by decide) (ec 22 (by omega)) (ec 23 (by omega)) (ec 26 (by omega)) ((ec 27 (by omega)).trans h27) ((ec 24 (by omega)).trans h24) (eM 21 (by omega) (by omega)) (eM 23 (by omega) (by omega)) (eM 28 (by omega) (by omega)) (fun x => ?_) ?_ (by omega) (fun _ h => absurd h (by decide)) (fun h => absurd h (by omega)) (fun h => absurd h (by decide))
        · unfold mStart
          rw [i_o (by omega), i_o (by omega), i_o (by omega), i_o (by omega), i_o (by omega), i_o (by omega)]
          exact em 1 x (by omega)
        · unfold mStart
          rw [i_o (by omega), i_o (by omega), i_o (by omega), i_e]
          rfl
      have e0x : ∀ x, x ≠ 15 → x ≠ 47 → x ≠ 36 → x ≠ 37 → x ≠ 38 → sI (mStart (wI (wI (wI (mFrame (wI μ 0 47 (nI (cl + 1))) mk) 13 (8 * mk) (sI μ 0 39)) 14 (8 * mk) (sI μ 0 40)) 22 n 1) (nI z) (nI mk)) 0 x = sI μ 0 x := by
        intro x h1 h2 h3 h4 h5
        unfold mStart
        rw [i_j (by omega), i_j (by omega), i_j (by omega), i_o (by omega), i_o (by omega), i_o (by omega)]
        exact em 0 x (by omega)
      obtain ⟨f1, f2, f3, f4, f5, f6, f7, f8, f9⟩ := id fc
      refine begin_ok (N := n + 1) (μ := mStart (wI (wI (wI (mFrame (wI μ 0 47 (nI (cl + 1))) mk) 13 (8 * mk) (sI μ 0 39)) 14 (8 * mk) (sI μ 0 40)) 22 n 1) (nI z) (nI mk)) (mk := mk + 1) (cl := cl + 1) hB2 (hRA.fr f1 fm.1 fm.2.1) (f4.trans hs) ⟨by omega, by omega, by omega, by omega, by omega, by omega, g7, by omega, g9, g10, g11⟩ (fun i hi => ?_) ?_ hfl ⟨f9.trans c8, f8.trans c9', f5.trans c3, f6.trans c4, f7.trans c5⟩ (by omega) hzn (by omega) ((e0x 45 (by omega) (by omega) (by omega) (by omega) (by omega)).trans m45) ((e0x 26 (by omega) (by omega) (by omega) (by omega) (by omega)).trans m26) rfl rfl rfl (fun σ' μ' h hr => kk _ _ (MR.tr ?_ h) hr)
      · by_cases e : i = n
        · subst e
          exact ⟨a, f, 25, 1, m, eE⟩
        · exact ents_fr hW fc fm (Nat.le_refl _) (fun _ _ => rfl) (fun _ _ => rfl) (by omega) i (by omega)
      · refine ⟨?_, ?_⟩
        · rw [cnt_ent eE hRA.2.2.1, if_pos ⟨rfl, rfl⟩, cnt_fr fc fm, hc1]
        · have h2 := (hcl.ff fc fm).2
          rw [cntp_ent eE hRA.2.2.1, if_neg (by decide)]
          omega
      · refine ms_up m36 ht0 (fun K q => m_up m26 (by omega) x21 ha60 x23 hk (by omega) p22 (by omega) (fun _ h => absurd h (by unfold isP2; omega)) (fun h _ => absurd h (by decide)) (fun _ _ => ?_))
        unfold wX11_upOf
        repeat refine gS (by decide) ?_
        intro _ _ _ _ _ _ _ _ _ _ _ _ _ _ _ _ _ _
        unfold wX11_upLater
        repeat refine gS (by decide) ?_
        refine ⟨fun _ => ?_, ?_⟩
        · unfold wX11_upCall
          rw [ea, hz]
          refine gF (by decide) ⟨hva, m_noAct hRA.2.1 hRA.2.2.1 (fun b hb h => gT rfl (gF (neN cl 8 e47 rfl (by omega) (by omega) (by omega)) ?_)) (fun h => absurd ⟨z, hzn, rfl⟩ h)⟩
          rw [e47, nI_1]
          refine m_newFrame (f := mk) e15 (by omega) ?_
          have e8 : (8 : Int32) * nI mk = nI (8 * mk) := mulN 8 mk rfl rfl
          rw [e8, nI_clamp (by omega), en, em 0 39 (by omega), em 0 40 (by omega), em 2 a (by omega), hz]
          exact ⟨vp_in_nI (by omega) (by decide), vp_in_nI (by omega) (by decide), hvn, hva, q⟩
        · repeat refine gS (by decide) ?_
          intros; contradiction
    · refine gF (by rw [e58]; exact nltN cl 8 rfl rfl (by omega) (by omega)) ?_
      refine fin_end (μ' := wI μ 0 26 (nI n)) (μ0 := wI (mGo μ 3 11 0 (nI a)) 0 26 (nI n)) (e := 11) hW hRA hs (hcl.w (by omega)) hfl hn hC hφ h22 hB hbdn Fm.rf.top m45 rfl rfl (by omega) (by omega) (mGo_top _ _ _ _ _ _) (MR.tr (b := mGo μ 3 11 0 (nI a)) ?_ ?_) kk
      · refine ms_up m36 ht0 (fun K q => m_up m26 (by omega) x21 ha60 x23 hk (by omega) p22 (by omega) (fun _ h => absurd h (by unfold isP2; omega)) (fun h _ => absurd h (by decide)) (fun _ _ => ?_))
        unfold wX11_upOf
        repeat refine gS (by decide) ?_
        intro _ _ _ _ _ _ _ _ _ _ _ _ _ _ _ _ _ _
        unfold wX11_upLater
        repeat refine gS (by decide) ?_
        refine ⟨fun _ => ?_, ?_⟩
        · unfold wX11_upCall
          rw [ea, hz]
          refine gF (by decide) ⟨hva, m_noAct hRA.2.1 hRA.2.2.1 (fun b hb h => gT rfl (gT (by rw [e47, show cl = 8 by omega]; rfl) (m_finish q))) (fun h => absurd ⟨z, hzn, rfl⟩ h)⟩
        · repeat refine gS (by decide) ?_
          intros; contradiction
      · refine ms_leave (a := a) rfl m26 (by omega) x21 ha60 (fun K q => ?_)
        have ek : sI (mGo μ 3 11 0 (nI a)) 1 a = nI 25 := hk
        have ep : sI (mGo μ 3 11 0 (nI a)) 22 n = nI 0 := p22
        rw [ek, ep]
        exact m_leave_none (by omega) (fun h => absurd h.2 (by decide)) (by omega) (by omega) q
  · refine c_hasNot hRA.1 (Or.inr ⟨nn0 z rfl (by omega), nltN z na rfl rfl (by omega) (by omega)⟩) (gT rfl ?_)
    rw [pk_none]
    refine fin_give (μ' := mVal (wI μ 0 26 (nI n)) 1 0) hW hRA hs (hcl.w (by omega)) hfl hn hC hφ hB (hbdg _) Fc.rf Fm.rf.top.val (Nat.le_refl _) (fun _ _ => rfl) (fun _ _ => rfl) (Nat.le_refl _) m45 rfl rfl V.no ?_ kk
    refine ms_up m36 ht0 (fun K q => m_up m26 (by omega) x21 ha60 x23 hk (by omega) p22 (by omega) (fun _ h => absurd h (by unfold isP2; omega)) (fun h _ => absurd h (by decide)) (fun _ _ => ?_))
    unfold wX11_upOf
    repeat refine gS (by decide) ?_
    intro _ _ _ _ _ _ _ _ _ _ _ _ _ _ _ _ _ _
    unfold wX11_upLater
    repeat refine gS (by decide) ?_
    refine ⟨fun _ => ?_, ?_⟩
    · unfold wX11_upCall
      rw [ea, hz]
      refine gF (by decide) ⟨hva, m_noAct hRA.2.1 hRA.2.2.1 (fun b hb h => absurd (eqN h (by omega) (by omega)) (by omega)) (fun _ => gF ne10 ?_)⟩
      rw [et]
      exact q
    · repeat refine gS (by decide) ?_
      intros; contradiction
theorem sv25_1 {so dl ln : Nat → Nat} {th us lm mk ch tl cl fl na s lim n a f m φ : Nat} {σ μ : Sg} {Q : Sg → Prop} (h : Vx so dl ln th us lm mk ch tl cl fl na s lim n a f 25 1 m φ σ μ) (kk : ∀ σ' μ', MR μ μ' → Rr φ σ' μ' → Q σ') : TC σ Q := by
  obtain ⟨⟨hB, hbd, hRA, hs, hW⟩, hE, h24, hcl, hfl, hC, hφ, m45, m26, m36, hV, hX⟩ := h
  have hC0 := hC
  obtain ⟨c8, c9, c3, c4, c5⟩ := hC0
  rw [show n + 1 - 1 = n by omega] at c9
  have hbd0 := hbd
  obtain ⟨g1, g2, g3, g4, g5, g6, g7, g8, g9, g10, g11⟩ := hbd0
  obtain ⟨ha, hf, hk32, hcap, hm, h22, x21, h23, x23, hk, h26, x28, -, hst⟩ := id hE
  have h22 : sI σ 22 n = nI a := h22
  have h23 : sI σ 23 n = nI f := h23
  have h26 : sI σ 26 n = nI m := h26
  have ha60 : a < 60 := Nat.lt_of_lt_of_le ha hRA.2.2.1
  obtain ⟨k', hk', hk1, r0, r1, r2, r3, r4, r5, r6, r7, r8, r9, r10, r11⟩ := hRA.2.2.2 a ha
  have ek : 25 = k' := eqN (hk.symm.trans hk1) (by omega) (by omega)
  subst ek
  have e1 : sI σ 6 3 = nI us := hB.2.2.2.2.2.2.1.1
  have e5 : sI μ 0 44 = nI fl := hB.2.2.2.2.2.2.2.1.2.2.2.2.2.1
  have hn : n < 200 := by omega
  have hcn := cnt_le (P := isCl σ μ) n
  have et : sI μ 0 26 - (1 : Int32) = nI n := subN (n + 1) 1 m26 rfl (by omega)
  have hvn : vp_in (nI n) 220 := vp_in_nI (by omega) (by decide)
  have hva : vp_in (nI a) 60 := vp_in_nI ha60 (by decide)
  have en : (nI n).toNatClampNeg = n := nI_clamp (by omega)
  have ea : (nI a).toNatClampNeg = a := nI_clamp (by omega)
  have ht0 : ¬ sI μ 0 26 = 0 := neN (n + 1) 0 m26 rfl (by omega) (by omega) (by decide)
  obtain ⟨h27, p22, d1, d2, d3⟩ : sI σ 27 n = 0 ∧ sI μ 22 n = nI 1 ∧ (1 ≤ 1 → kpX 25 = true → V so dl th (sL σ 25 (3 * n)) (sI μ 24 n) (sI μ 25 n)) ∧ (2 ≤ 1 → V so dl th (sL σ 25 (3 * n + 1)) (sI μ 26 n) (sI μ 27 n)) ∧ (25 = 28 → 1 ≤ 1 → ∃ q, q < th ∧ so q = 7 ∧ sL σ 25 (3 * n) = pk 7 (nI (dl q)) ∧ sI μ 25 n = nI q) := by
    rcases hst with h | h
    · exact h
    · exact absurd h.1 (by decide)
  have hcl2 := hcl.2
  rw [if_neg (by decide)] at hcl2
  have hcl := hcl.1
  rw [if_pos ⟨rfl, rfl⟩] at hcl
  have hx2 := hX.2
  have e58 : sI σ 5 8 = nI cl := hB.2.2.2.2.2.2.2.1.2.2.1
  have e47 : sI μ 0 47 = nI cl := hB.2.2.2.2.2.2.2.1.2.2.2.1
  obtain ⟨c, rfl⟩ : ∃ c, cl = c + 1 := ⟨cl - 1, by omega⟩
  have ec : sI σ 5 8 - (1 : Int32) = nI c := subN (c + 1) 1 e58 rfl (by omega)
  have ec2 : sI μ 0 47 - (1 : Int32) = nI c := subN (c + 1) 1 e47 rfl (by omega)
  refine tc_after c3 hRA.1 hRA.2.2.1 c9 hn h22 ha r4 h24 (by omega) (by decide) ?_
  refine wk_sel hRA.1 hRA.2.2.1 c9 hn h22 ha r0 ?_ (by omega)
  refine ⟨fun q => absurd q (by decide), fun q => absurd q (by decide), fun q => absurd q (by decide), fun q => absurd q (by decide), fun q => absurd q (by decide), fun q => absurd q (by decide), fun _ => ?_, fun q => absurd q (by decide), fun q => absurd q (by decide), fun q => absurd q (by decide)⟩
  unfold wX6_call
  refine c_stage c9 hn (gF (by rw [h24]; decide) ?_)
  rw [ec]
  refine c_value (σ := wI σ 5 8 (nI c)) (w := 1) c9 hn rfl (by omega) ?_
  refine fin_give (so' := so) (dl' := dl) (ln' := ln) (th' := th) (us' := us) (lm' := lm) (mk' := mk) (tl' := tl) (ch' := ch) (cl' := c) (μ' := wI (wI μ 0 26 (nI n)) 0 47 (nI c)) hW hRA hs ⟨by omega, by omega⟩ hfl hn hC hφ ?_ ⟨⟨by omega, by omega, by omega, by omega, by omega, g6, g7, by omega, g9, g10, g11⟩, Xv.mk g1 (by omega)⟩ (Fc.rf.w1 (Or.inr (Or.inl (by decide)))) (Fm.rf.top.w1 (Or.inl ⟨rfl, by decide⟩)) (Nat.le_refl _) (fun _ _ => rfl) (fun _ _ => rfl) (Nat.le_refl _) m45 rfl m36 hV ?_ kk
  · obtain ⟨b1, b2, b3, b4, b5, b6, b7, ⟨d1, d2, d3, d4, d5, d6, d7, d8⟩, b9, b10⟩ := hB
    exact ⟨b1, b2, b3, b4, b5, b6, b7, ⟨d1, d2, rfl, rfl, d5, d6, d7, d8⟩, b9, b10⟩
  · refine ms_up m36 ht0 (fun K q => m_up m26 (by omega) x21 ha60 x23 hk (by omega) p22 (by omega) (fun h _ => absurd h (by decide)) (fun _ h => absurd h (by omega)) (fun _ _ => ?_))
    unfold wX11_upOf
    repeat refine gS (by decide) ?_
    intro _ _ _ _ _ _ _ _ _ _ _ _ _ _ _ _ _ _
    unfold wX11_upLater
    repeat refine gS (by decide) ?_
    refine ⟨fun _ => ?_, ?_⟩
    · unfold wX11_upCall
      refine gT rfl ?_
      rw [et, ec2]
      exact q
    · repeat refine gS (by decide) ?_
      intros; contradiction
theorem sv26_0 {so dl ln : Nat → Nat} {th us lm mk ch tl cl fl na s lim n a f m φ : Nat} {σ μ : Sg} {Q : Sg → Prop} (h : Vx so dl ln th us lm mk ch tl cl fl na s lim n a f 26 0 m φ σ μ) (kk : ∀ σ' μ', MR μ μ' → Rr φ σ' μ' → Q σ') : TC σ Q := by
  obtain ⟨⟨hB, hbd, hRA, hs, hW⟩, hE, h24, hcl, hfl, hC, hφ, m45, m26, m36, hV, hX⟩ := h
  have hC0 := hC
  obtain ⟨c8, c9, c3, c4, c5⟩ := hC0
  rw [show n + 1 - 1 = n by omega] at c9
  have hbd0 := hbd
  obtain ⟨g1, g2, g3, g4, g5, g6, g7, g8, g9, g10, g11⟩ := hbd0
  obtain ⟨ha, hf, hk32, hcap, hm, h22, x21, h23, x23, hk, h26, x28, -, hst⟩ := id hE
  have h22 : sI σ 22 n = nI a := h22
  have h23 : sI σ 23 n = nI f := h23
  have h26 : sI σ 26 n = nI m := h26
  have ha60 : a < 60 := Nat.lt_of_lt_of_le ha hRA.2.2.1
  obtain ⟨k', hk', hk1, r0, r1, r2, r3, r4, r5, r6, r7, r8, r9, r10, r11⟩ := hRA.2.2.2 a ha
  have ek : 26 = k' := eqN (hk.symm.trans hk1) (by omega) (by omega)
  subst ek
  have e1 : sI σ 6 3 = nI us := hB.2.2.2.2.2.2.1.1
  have e5 : sI μ 0 44 = nI fl := hB.2.2.2.2.2.2.2.1.2.2.2.2.2.1
  have hn : n < 200 := by omega
  have hcn := cnt_le (P := isCl σ μ) n
  have et : sI μ 0 26 - (1 : Int32) = nI n := subN (n + 1) 1 m26 rfl (by omega)
  have hvn : vp_in (nI n) 220 := vp_in_nI (by omega) (by decide)
  have hva : vp_in (nI a) 60 := vp_in_nI ha60 (by decide)
  have en : (nI n).toNatClampNeg = n := nI_clamp (by omega)
  have ea : (nI a).toNatClampNeg = a := nI_clamp (by omega)
  have ht0 : ¬ sI μ 0 26 = 0 := neN (n + 1) 0 m26 rfl (by omega) (by omega) (by decide)
  have hcl : Cn cl ch s (17 * (n + 1) + 15) σ μ n := hcl.no (by decide)
  have hc1 : cl = cnt (isCl σ μ) n := hcl.1
  have hc2 := hcl.2
  have hbdn : Bd th us lm mk ch tl cl s lim n := ⟨by omega, by omega, by omega, by omega, by omega, g6, g7, g8, g9, g10, g11⟩
  have hbdg : ∀ t : Int32, Bd th us lm mk ch tl cl s lim n ∧ Xv t us mk cl s n := fun t => ⟨hbdn, Xv.mk g1 (by omega)⟩
  obtain ⟨h27, p22, d1, d2, d3⟩ : sI σ 27 n = 0 ∧ sI μ 22 n = nI 0 ∧ (1 ≤ 0 → kpX 26 = true → V so dl th (sL σ 25 (3 * n)) (sI μ 24 n) (sI μ 25 n)) ∧ (2 ≤ 0 → V so dl th (sL σ 25 (3 * n + 1)) (sI μ 26 n) (sI μ 27 n)) ∧ (26 = 28 → 1 ≤ 0 → ∃ q, q < th ∧ so q = 7 ∧ sL σ 25 (3 * n) = pk 7 (nI (dl q)) ∧ sI μ 25 n = nI q) := by
    rcases hst with h | h
    · exact h
    · exact absurd h.1 (by decide)
  rw [Nat.add_zero] at hV
  by_cases tx0 : sI μ 0 39 = 0
  · have eX : nbr (sL σ 25 (3 * n)) = sI μ 0 40 := hV.num tx0
    have e24 : sI μ 0 24 = nI tl := hB.2.2.2.2.2.2.2.1.2.1
    have m0 : ∀ x, x ≠ 24 → sI (mTell (wI μ 0 26 (nI n)) tl (sI μ 0 40)) 0 x = sI (wI μ 0 26 (nI n)) 0 x := by
      intro x hx
      unfold mTell
      split
      · rw [i_j hx, i_o (by decide)]
      · rfl
    refine sv_work (j := 1) c3 hRA c9 hn h22 ha r4 h24 (by omega) r0 hB (by omega) (fun lx ly _ _ Q' q => of_w1 (by omega) (by rw [hV.fwt, tx0]; exact q)) ?_
    refine wk_plain hRA.1 hRA.2.2.1 c9 hn h22 ha r0 (by omega) (by omega) (by omega) (by omega) (by omega) (by omega) (by omega) (by omega) (by omega) (by omega) (by omega) (wp_hi hRA.1 hRA.2.2.1 c9 hn h22 ha (by omega) (by omega) ?_)
    unfold wX6_change
    repeat refine gS (by decide) ?_
    refine ⟨fun _ => ?_, ?_⟩
    · refine c_tell hB.2.2.2.2.2.2.2.1.1 g7 ?_
      rw [eX]
      refine fin_give (so' := so) (dl' := dl) (ln' := ln) (th' := th) (us' := us) (lm' := lm) (mk' := mk) (tl' := if tl < 40 then tl + 1 else tl) (ch' := ch) (cl' := cl) (μ' := mTell (wI μ 0 26 (nI n)) tl (sI μ 0 40)) hW hRA hs (hcl.w (by omega)) hfl hn hC hφ (Bs.tell (μ := wI μ 0 26 (nI n)) hB) ⟨⟨by omega, by omega, by omega, by omega, by omega, g6, by split <;> omega, g8, g9, g10, g11⟩, Xv.mk g1 (by omega)⟩ Fc.rf.tell Fm.rf.top.tell (Nat.le_refl _) (fun _ _ => rfl) (fun _ _ => rfl) (Nat.le_refl _) ((m0 45 (by decide)).trans m45) ((m0 26 (by decide)).trans rfl) ((m0 36 (by decide)).trans m36) ?_ ?_ kk
      · rw [m0 39 (by decide), m0 40 (by decide)]
        exact hV
      · refine ms_up m36 ht0 (fun K q => m_up m26 (by omega) x21 ha60 x23 hk (by omega) p22 (by omega) (fun _ h => absurd h (by unfold isP2; omega)) (fun h _ => absurd h (by decide)) (fun _ _ => ?_))
        unfold wX11_upOf
        repeat refine gS (by decide) ?_
        intro _ _ _ _ _ _ _ _ _ _ _ _ _ _ _ _ _ _
        unfold wX11_upLater
        repeat refine gS (by decide) ?_
        refine ⟨fun _ => ?_, ?_⟩
        · rw [et]
          refine m_isWhole e5 hfl (fun _ => gF ne10 ?_) (fun g => absurd tx0 g)
          have f24 : sI (wI μ 0 26 (nI n)) 0 24 = nI tl := e24
          rw [f24, nI_1]
          unfold mTell at q
          by_cases h40 : tl < 40
          · rw [if_pos h40] at q
            rw [nI_clamp (by omega)]
            exact gT (ltN tl 40 rfl rfl h40 (by omega)) ⟨vp_in_nI h40 (by decide), q⟩
          · rw [if_neg h40] at q
            exact gF (nltN tl 40 rfl rfl (by omega) (by omega)) q
        · repeat refine gS (by decide) ?_
          intros; contradiction
    · repeat refine gS (by decide) ?_
      intros; contradiction
  · obtain ⟨e, he1, he8, he7, hee⟩ := ft_e tx0
    refine sv_fail (j := 1) (e := e) (r := ft (sI μ 0 39)) (c := ft (sI μ 0 39)) c3 hRA c9 hn h22 ha r4 h24 (by omega) r0 hB hbdn hW hs (hcl.w (by omega)) hfl hC hφ m45 (by omega) hee he1 he8 (fun lx ly _ _ Q' q => of_w1 (by omega) (by rw [hV.fwt]; exact q)) (if_neg (ft_7 tx0)) ?_ kk
    rw [← hee]
    refine ms_up m36 ht0 (fun K q => m_up m26 (by omega) x21 ha60 x23 hk (by omega) p22 (by omega) (fun _ h => absurd h (by unfold isP2; omega)) (fun h _ => absurd h (by decide)) (fun _ _ => ?_))
    unfold wX11_upOf
    repeat refine gS (by decide) ?_
    intro _ _ _ _ _ _ _ _ _ _ _ _ _ _ _ _ _ _
    unfold wX11_upLater
    repeat refine gS (by decide) ?_
    refine ⟨fun _ => ?_, ?_⟩
    · rw [et]
      exact m_isWhole e5 hfl (fun g => absurd g tx0) (fun _ => gT rfl q)
    · repeat refine gS (by decide) ?_
      intros; contradiction
theorem sv29_0 {so dl ln : Nat → Nat} {th us lm mk ch tl cl fl na s lim n a f m φ : Nat} {σ μ : Sg} {Q : Sg → Prop} (h : Vx so dl ln th us lm mk ch tl cl fl na s lim n a f 29 0 m φ σ μ) (kk : ∀ σ' μ', MR μ μ' → Rr φ σ' μ' → Q σ') : TC σ Q := by
  obtain ⟨⟨hB, hbd, hRA, hs, hW⟩, hE, h24, hcl, hfl, hC, hφ, m45, m26, m36, hV, hX⟩ := h
  have hC0 := hC
  obtain ⟨c8, c9, c3, c4, c5⟩ := hC0
  rw [show n + 1 - 1 = n by omega] at c9
  have hbd0 := hbd
  obtain ⟨g1, g2, g3, g4, g5, g6, g7, g8, g9, g10, g11⟩ := hbd0
  obtain ⟨ha, hf, hk32, hcap, hm, h22, x21, h23, x23, hk, h26, x28, -, hst⟩ := id hE
  have h22 : sI σ 22 n = nI a := h22
  have h23 : sI σ 23 n = nI f := h23
  have h26 : sI σ 26 n = nI m := h26
  have ha60 : a < 60 := Nat.lt_of_lt_of_le ha hRA.2.2.1
  obtain ⟨k', hk', hk1, r0, r1, r2, r3, r4, r5, r6, r7, r8, r9, r10, r11⟩ := hRA.2.2.2 a ha
  have ek : 29 = k' := eqN (hk.symm.trans hk1) (by omega) (by omega)
  subst ek
  have e1 : sI σ 6 3 = nI us := hB.2.2.2.2.2.2.1.1
  have e5 : sI μ 0 44 = nI fl := hB.2.2.2.2.2.2.2.1.2.2.2.2.2.1
  have hn : n < 200 := by omega
  have hcn := cnt_le (P := isCl σ μ) n
  have et : sI μ 0 26 - (1 : Int32) = nI n := subN (n + 1) 1 m26 rfl (by omega)
  have hvn : vp_in (nI n) 220 := vp_in_nI (by omega) (by decide)
  have hva : vp_in (nI a) 60 := vp_in_nI ha60 (by decide)
  have en : (nI n).toNatClampNeg = n := nI_clamp (by omega)
  have ea : (nI a).toNatClampNeg = a := nI_clamp (by omega)
  have ht0 : ¬ sI μ 0 26 = 0 := neN (n + 1) 0 m26 rfl (by omega) (by omega) (by decide)
  have hcl : Cn cl ch s (17 * (n + 1) + 15) σ μ n := hcl.no (by decide)
  have hc1 : cl = cnt (isCl σ μ) n := hcl.1
  have hc2 := hcl.2
  have hbdn : Bd th us lm mk ch tl cl s lim n := ⟨by omega, by omega, by omega, by omega, by omega, g6, g7, g8, g9, g10, g11⟩
  have hbdg : ∀ t : Int32, Bd th us lm mk ch tl cl s lim n ∧ Xv t us mk cl s n := fun t => ⟨hbdn, Xv.mk g1 (by omega)⟩
  obtain ⟨h27, p22, d1, d2, d3⟩ : sI σ 27 n = 0 ∧ sI μ 22 n = nI 0 ∧ (1 ≤ 0 → kpX 29 = true → V so dl th (sL σ 25 (3 * n)) (sI μ 24 n) (sI μ 25 n)) ∧ (2 ≤ 0 → V so dl th (sL σ 25 (3 * n + 1)) (sI μ 26 n) (sI μ 27 n)) ∧ (29 = 28 → 1 ≤ 0 → ∃ q, q < th ∧ so q = 7 ∧ sL σ 25 (3 * n) = pk 7 (nI (dl q)) ∧ sI μ 25 n = nI q) := by
    rcases hst with h | h
    · exact h
    · exact absurd h.1 (by decide)
  refine sv_work (j := 1) c3 hRA c9 hn h22 ha r4 h24 (by omega) r0 hB (by omega) (fun lx ly _ _ Q' q => of_none (by simp) q) ?_
  refine wk_sel hRA.1 hRA.2.2.1 c9 hn h22 ha r0 ?_ (by omega)
  refine ⟨fun q => absurd q (by decide), fun q => absurd q (by decide), fun q => absurd q (by decide), fun q => absurd q (by decide), fun q => absurd q (by decide), fun q => absurd q (by decide), fun q => absurd q (by decide), fun q => absurd q (by decide), fun q => absurd q (by decide), fun _ => ?_⟩
  refine c_value (w := 0) c9 hn rfl (by omega) ?_
  refine fin_give (μ' := wI μ 0 26 (nI n)) hW hRA hs (hcl.w (by omega)) hfl hn hC hφ hB (hbdg _) Fc.rf Fm.rf.top (Nat.le_refl _) (fun _ _ => rfl) (fun _ _ => rfl) (Nat.le_refl _) m45 rfl m36 hV ?_ kk
  refine ms_up m36 ht0 (fun K q => m_up m26 (by omega) x21 ha60 x23 hk (by omega) p22 (by omega) (fun _ h => absurd h (by unfold isP2; omega)) (fun h _ => absurd h (by decide)) (fun _ _ => ?_))
  unfold wX11_upOf
  repeat refine gS (by decide) ?_
  intro _ _ _ _ _ _ _ _ _ _ _ _ _ _ _ _ _ _
  unfold wX11_upLater
  repeat refine gS (by decide) ?_
  refine ⟨fun _ => ?_, ?_⟩
  · unfold wX11_upLater_332
    rw [et]
    exact q
  · repeat refine gS (by decide) ?_
    intros; contradiction
theorem sv31_0 {so dl ln : Nat → Nat} {th us lm mk ch tl cl fl na s lim n a f m φ : Nat} {σ μ : Sg} {Q : Sg → Prop} (h : Vx so dl ln th us lm mk ch tl cl fl na s lim n a f 31 0 m φ σ μ) (kk : ∀ σ' μ', MR μ μ' → Rr φ σ' μ' → Q σ') : TC σ Q := by
  obtain ⟨⟨hB, hbd, hRA, hs, hW⟩, hE, h24, hcl, hfl, hC, hφ, m45, m26, m36, hV, hX⟩ := h
  have hC0 := hC
  obtain ⟨c8, c9, c3, c4, c5⟩ := hC0
  rw [show n + 1 - 1 = n by omega] at c9
  have hbd0 := hbd
  obtain ⟨g1, g2, g3, g4, g5, g6, g7, g8, g9, g10, g11⟩ := hbd0
  obtain ⟨ha, hf, hk32, hcap, hm, h22, x21, h23, x23, hk, h26, x28, -, hst⟩ := id hE
  have h22 : sI σ 22 n = nI a := h22
  have h23 : sI σ 23 n = nI f := h23
  have h26 : sI σ 26 n = nI m := h26
  have ha60 : a < 60 := Nat.lt_of_lt_of_le ha hRA.2.2.1
  obtain ⟨k', hk', hk1, r0, r1, r2, r3, r4, r5, r6, r7, r8, r9, r10, r11⟩ := hRA.2.2.2 a ha
  have ek : 31 = k' := eqN (hk.symm.trans hk1) (by omega) (by omega)
  subst ek
  have e1 : sI σ 6 3 = nI us := hB.2.2.2.2.2.2.1.1
  have e5 : sI μ 0 44 = nI fl := hB.2.2.2.2.2.2.2.1.2.2.2.2.2.1
  have hn : n < 200 := by omega
  have hcn := cnt_le (P := isCl σ μ) n
  have et : sI μ 0 26 - (1 : Int32) = nI n := subN (n + 1) 1 m26 rfl (by omega)
  have hvn : vp_in (nI n) 220 := vp_in_nI (by omega) (by decide)
  have hva : vp_in (nI a) 60 := vp_in_nI ha60 (by decide)
  have en : (nI n).toNatClampNeg = n := nI_clamp (by omega)
  have ea : (nI a).toNatClampNeg = a := nI_clamp (by omega)
  have ht0 : ¬ sI μ 0 26 = 0 := neN (n + 1) 0 m26 rfl (by omega) (by omega) (by decide)
  have hcl : Cn cl ch s (17 * (n + 1) + 15) σ μ n := hcl.no (by decide)
  have hc1 : cl = cnt (isCl σ μ) n := hcl.1
  have hc2 := hcl.2
  have hbdn : Bd th us lm mk ch tl cl s lim n := ⟨by omega, by omega, by omega, by omega, by omega, g6, g7, g8, g9, g10, g11⟩
  have hbdg : ∀ t : Int32, Bd th us lm mk ch tl cl s lim n ∧ Xv t us mk cl s n := fun t => ⟨hbdn, Xv.mk g1 (by omega)⟩
  obtain ⟨h27, p22, d1, d2, d3⟩ : sI σ 27 n = 0 ∧ sI μ 22 n = nI 0 ∧ (1 ≤ 0 → kpX 31 = true → V so dl th (sL σ 25 (3 * n)) (sI μ 24 n) (sI μ 25 n)) ∧ (2 ≤ 0 → V so dl th (sL σ 25 (3 * n + 1)) (sI μ 26 n) (sI μ 27 n)) ∧ (31 = 28 → 1 ≤ 0 → ∃ q, q < th ∧ so q = 7 ∧ sL σ 25 (3 * n) = pk 7 (nI (dl q)) ∧ sI μ 25 n = nI q) := by
    rcases hst with h | h
    · exact h
    · exact absurd h.1 (by decide)
  rw [Nat.add_zero] at hV
  obtain ⟨z, hz8, hz⟩ := r8 (by omega)
  refine sv_work (j := 1) c3 hRA c9 hn h22 ha r4 h24 (by omega) r0 hB (by omega) (fun lx ly _ _ Q' q => of_none (by simp) q) ?_
  refine wk_plain hRA.1 hRA.2.2.1 c9 hn h22 ha r0 (by omega) (by omega) (by omega) (by omega) (by omega) (by omega) (by omega) (by omega) (by omega) (by omega) (by omega) (wp_hi hRA.1 hRA.2.2.1 c9 hn h22 ha (by omega) (by omega) ?_)
  unfold wX6_change
  repeat refine gS (by decide) ?_
  refine ⟨fun _ => ?_, ?_⟩
  · rw [r1]
    refine c_put hz e1 (by omega) (by omega) hB.2.2.2.2.2.2.1.2.1 (by omega) ?_
    refine fin_give (so' := so) (dl' := dl) (ln' := ln) (th' := th) (us' := us) (lm' := lm) (mk' := mk) (tl' := tl) (cl' := cl) (ch' := ch + 1) (μ' := mWrite (wI μ 0 26 (nI n)) ch z (sI μ 0 39) (sI μ 0 40)) hW hRA hs (hcl.w (by omega)) hfl hn hC hφ ?_ ⟨⟨by omega, by omega, by omega, by omega, by omega, g6, g7, g8, g9, g10, g11⟩, Xv.mk g1 (by omega)⟩ Fc.rf.write Fm.rf.top.write (Nat.le_refl _) (fun _ _ => rfl) (fun _ _ => rfl) (Nat.le_refl _) (show sI (mWrite (wI μ 0 26 (nI n)) ch (z) (sI μ 0 39) (sI μ 0 40)) 0 45 = _ by rw [mWrite_I _ _ _ _ _ _ _ (by decide) (by decide) (by decide) (by decide) (by decide) (by decide) (by decide) (Or.inr (by decide))]; exact m45) (show sI (mWrite (wI μ 0 26 (nI n)) ch (z) (sI μ 0 39) (sI μ 0 40)) 0 26 = _ by rw [mWrite_I _ _ _ _ _ _ _ (by decide) (by decide) (by decide) (by decide) (by decide) (by decide) (by decide) (Or.inr (by decide))]; exact rfl) (show sI (mWrite (wI μ 0 26 (nI n)) ch (z) (sI μ 0 39) (sI μ 0 40)) 0 36 = _ by rw [mWrite_I _ _ _ _ _ _ _ (by decide) (by decide) (by decide) (by decide) (by decide) (by decide) (by decide) (Or.inr (by decide))]; exact m36) ?_ ?_ kk
    · have hb2 := Bs.write (w := z) (μ := wI μ 0 26 (nI n)) hB (Or.inl hz8) hV (fun h => absurd h (by omega))
      have ec : cad so dl z = z := if_pos hz8
      rw [ec] at hb2
      exact hb2
    · rw [mWrite_I _ _ _ _ _ _ _ (by decide) (by decide) (by decide) (by decide) (by decide) (by decide) (by decide) (Or.inr (by decide)), mWrite_I _ _ _ _ _ _ _ (by decide) (by decide) (by decide) (by decide) (by decide) (by decide) (by decide) (Or.inr (by decide))]
      exact hV
    · refine ms_up m36 ht0 (fun K q => m_up m26 (by omega) x21 ha60 x23 hk (by omega) p22 (by omega) (fun _ h => absurd h (by unfold isP2; omega)) (fun h _ => absurd h (by decide)) (fun _ _ => ?_))
      unfold wX11_upOf
      repeat refine gS (by decide) ?_
      intro _ _ _ _ _ _ _ _ _ _ _ _ _ _ _ _ _ _
      unfold wX11_upLater
      repeat refine gS (by decide) ?_
      refine ⟨fun _ => ?_, ?_⟩
      · rw [et, ea]
        exact ⟨hva, m_write (μ := wI μ 0 26 (nI n)) hz (by omega) hB.2.2.2.2.2.2.1.2.2.1 (by omega) q⟩
      · repeat refine gS (by decide) ?_
        intros; contradiction
  · repeat refine gS (by decide) ?_
    intros; contradiction
