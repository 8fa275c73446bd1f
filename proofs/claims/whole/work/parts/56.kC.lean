theorem sv16_2 {so dl ln : Nat → Nat} {th us lm mk ch tl cl fl na s lim n a f m φ : Nat} {σ μ : Sg} {Q : Sg → Prop} (h : Vx so dl ln th us lm mk ch tl cl fl na s lim n a f 16 2 m φ σ μ) (kk : ∀ σ' μ', MR μ μ' → Rr φ σ' μ' → Q σ') : TC σ Q := by
  obtain ⟨⟨hB, hbd, hRA, hs, hW⟩, hE, h24, hcl, hfl, hC, hφ, m45, m26, m36, hV, hX⟩ := h
  have hC0 := hC
  obtain ⟨c8, c9, c3, c4, c5⟩ := hC0
  rw [show n + 1 - 1 = n by omega] at c9
  have hbd0 := hbd
  obtain ⟨g1, g2, g3, g4, g5, g6, g7, g8, g9, g10, g11⟩ := hbd0
  obtain ⟨ha, hf, hk32, hcap, hm, h22, x21, h23, x23, hk, h26, x28, -, hst⟩ := id hE
  have h22 : sI σ 22 n = nI a := h22
  have h23 : sI σ 23 n = nI f := h23
  have h26 : sI σ 26 n = nI m := h26
  have ha60 : a < 60 := Nat.lt_of_lt_of_le ha hRA.2.2.1
  obtain ⟨k', hk', hk1, r0, r1, r2, r3, r4, r5, r6, r7, r8, r9, r10, r11⟩ := hRA.2.2.2 a ha
  have ek : 16 = k' := eqN (hk.symm.trans hk1) (by omega) (by omega)
  subst ek
  have e1 : sI σ 6 3 = nI us := hB.2.2.2.2.2.2.1.1
  have e5 : sI μ 0 44 = nI fl := hB.2.2.2.2.2.2.2.1.2.2.2.2.2.1
  have hn : n < 200 := by omega
  have hcn := cnt_le (P := isCl σ μ) n
  have et : sI μ 0 26 - (1 : Int32) = nI n := subN (n + 1) 1 m26 rfl (by omega)
  have hvn : vp_in (nI n) 220 := vp_in_nI (by omega) (by decide)
  have hva : vp_in (nI a) 60 := vp_in_nI ha60 (by decide)
  have en : (nI n).toNatClampNeg = n := nI_clamp (by omega)
  have ea : (nI a).toNatClampNeg = a := nI_clamp (by omega)
  have ht0 : ¬ sI μ 0 26 = 0 := neN (n + 1) 0 m26 rfl (by omega) (by omega) (by decide)
  have hcl : Cn cl ch s (17 * (n + 1) + 15) σ μ n := hcl.no (by decide)
  have hc1 : cl = cnt (isCl σ μ) n := hcl.1
  have hc2 := hcl.2
  have hbdn : Bd th us lm mk ch tl cl s lim n := ⟨by omega, by omega, by omega, by omega, by omega, g6, g7, g8, g9, g10, g11⟩
  have hbdg : ∀ t : Int32, Bd th us lm mk ch tl cl s lim n ∧ Xv t us mk cl s n := fun t => ⟨hbdn, Xv.mk g1 (by omega)⟩
  obtain ⟨h27, p22, d1, d2, d3⟩ : sI σ 27 n = 0 ∧ sI μ 22 n = nI 2 ∧ (1 ≤ 2 → kpX 16 = true → V so dl th (sL σ 25 (3 * n)) (sI μ 24 n) (sI μ 25 n)) ∧ (2 ≤ 2 → V so dl th (sL σ 25 (3 * n + 1)) (sI μ 26 n) (sI μ 27 n)) ∧ (16 = 28 → 1 ≤ 2 → ∃ q, q < th ∧ so q = 7 ∧ sL σ 25 (3 * n) = pk 7 (nI (dl q)) ∧ sI μ 25 n = nI q) := by
    rcases hst with h | h
    · exact h
    · exact absurd h.1 (by decide)
  have dX := d1 (by decide) (by decide)
  have dY := d2 (by decide)
  have eX : srt (sL σ 25 (3 * n)) = sI μ 24 n := dX.srt
  have eZ : srt (sL σ 25 (3 * n + 2)) = sI μ 0 39 := hV.srt
  obtain ⟨b, hb⟩ := bool_of (isRw (srt (sL σ 25 (3 * n))))
  by_cases ty0 : sI μ 26 n = 0
  · by_cases hok : okZ (sI μ 24 n) (sI μ 0 39)
    · have hov : (0 : Int32) = fw (sL σ 25 (3 * n + 2)) ∧ ¬ isRL (srt (sL σ 25 (3 * n))) ∨ isRL (srt (sL σ 25 (3 * n))) ∧ (isLN (srt (sL σ 25 (3 * n + 2))) ∧ (0 : Int32) = 0 ∨ ¬ isLN (srt (sL σ 25 (3 * n + 2))) ∧ (0 : Int32) = 4) := by
        rw [eX, eZ, hV.fwt]
        rcases hok with ⟨h3, h4⟩ | ⟨h3, h4⟩
        · exact Or.inr ⟨h3, Or.inl ⟨h4, rfl⟩⟩
        · exact Or.inl ⟨by rw [h4]; rfl, h3⟩
      by_cases hr : isRw (sI μ 24 n)
      · have bt : b = true := hb.mpr (by rw [eX]; exact hr)
        obtain ⟨k0, a1, a2, a3, a4, a5, a6⟩ := dX.row hr
        obtain ⟨b1, b2, b3, b4⟩ := hB.len a1 a3
        by_cases hi : ∃ i, i < ln k0 ∧ sI μ 27 n = nI i
        · obtain ⟨i, hi1, hi2⟩ := hi
          obtain ⟨t1, t2, t3, t4, t5, t6⟩ := hB.place a1 a3 hi1
          by_cases hs5 : sI μ 24 n = 4 ∧ sI μ 0 39 = 5
          · refine sv_fail (j := 3) (e := 5) (r := 5) (c := 5) c3 hRA c9 hn h22 ha r4 h24 (by omega) r0 hB hbdn hW hs (hcl.w (by omega)) hfl hC hφ m45 (by omega) rfl (by omega) (by omega) (fun lx ly hx hy Q' q => of_16 b 0 hb hov ?_) rfl ?_ kk
            · have hlx := hx (by rw [eX]; exact hr) _ a6 b3
              rw [hlx, b4, dY.num ty0, dY.fwt, ty0, ft_0, bt, fth_t, hi2, fp_ok hi1 (by omega), eX, eZ, if_pos hs5, f1_l (by rw [f1_l rfl rfl]) rfl]
              exact q

            · refine ms_up m36 ht0 (fun K q => m_up m26 (by omega) x21 ha60 x23 hk (by omega) p22 (by omega) (fun h _ => absurd h (by decide)) (fun h _ => absurd h (by decide)) (fun _ _ => ?_))
              unfold wX11_upOf
              repeat refine gS (by decide) ?_
              refine ⟨fun _ => ?_, ?_⟩
              · rw [et]
                exact m_wp_93 (μ := wI μ 0 26 (nI n)) e5 hfl hvn en ty0 hok (m_w93_s e5 hfl hvn en hr a5 (by omega) b1 b2 hi1 hi2 hs5.1 hs5.2 q)
              · repeat refine gS (by decide) ?_
                intros; contradiction
          · have htyp : typ so (8 + 16 * k0 + i) (sI μ 0 39) := by
              intro _
              obtain ⟨w1, w2⟩ := w_div (k := k0) t1
              rw [w1]
              have s4 : ∀ c : Nat, so k0 = c → sI μ 24 n = nI c := fun c hc => by rw [a4, hc]
              refine ⟨fun g => ?_, fun g => ?_, fun g => ?_⟩
              · rcases hok with ⟨h3, -⟩ | ⟨-, h3⟩
                · rw [s4 2 g] at h3
                  exact absurd h3 (by unfold isRL; decide)
                · exact h3
              · rcases hok with ⟨-, h3⟩ | ⟨h3, -⟩
                · unfold isLN at h3
                  rcases h3 with r | r | r
                  · exact Or.inr (Or.inl r)
                  · exact Or.inr (Or.inr r)
                  · exact Or.inl r
                · exact absurd (Or.inl (s4 3 g)) h3
              · rcases hok with ⟨-, h3⟩ | ⟨h3, -⟩
                · unfold isLN at h3
                  rcases h3 with r | r | r
                  · exact absurd ⟨s4 4 g, r⟩ hs5
                  · exact Or.inr r
                  · exact Or.inl r
                · exact absurd (Or.inr (s4 4 g)) h3
            refine sv_work (j := 3) c3 hRA c9 hn h22 ha r4 h24 (by omega) r0 hB (by omega) (fun lx ly hx _ Q' q => of_16 b 0 hb hov ?_) ?_
            · have hlx := hx (by rw [eX]; exact hr) _ a6 b3
              rw [hlx, b4, dY.num ty0, dY.fwt, ty0, ft_0, bt, fth_t, hi2, fp_ok hi1 (by omega), eX, eZ, if_neg hs5, f1_l (by rw [f1_l rfl rfl]) rfl]
              exact q
            · refine wk_plain hRA.1 hRA.2.2.1 c9 hn h22 ha r0 (by omega) (by omega) (by omega) (by omega) (by omega) (by omega) (by omega) (by omega) (by omega) (by omega) (by omega) (wp_hi hRA.1 hRA.2.2.1 c9 hn h22 ha (by omega) (by omega) ?_)
              unfold wX6_change
              repeat refine gS (by decide) ?_
              refine ⟨fun _ => ?_, ?_⟩
              · refine c_number (c_cellOf ?_)
                rw [a6, dY.num ty0, hi2]
                have ec : (nI (dl k0) + 1) + nI i = nI (dl k0 + 1 + i) := addN _ _ (addN _ 1 rfl rfl) rfl
                refine c_put ec e1 (by omega) t4 hB.2.2.2.2.2.2.1.2.1 (by omega) ?_
                refine fin_give (so' := so) (dl' := dl) (ln' := ln) (th' := th) (us' := us) (lm' := lm) (mk' := mk) (tl' := tl) (cl' := cl) (ch' := ch + 1) (μ' := mWrite (wI μ 0 26 (nI n)) ch (8 + 16 * k0 + i) (sI μ 0 39) (sI μ 0 40)) hW hRA hs (hcl.w (by omega)) hfl hn hC hφ ?_ ⟨⟨by omega, by omega, by omega, by omega, by omega, g6, g7, g8, g9, g10, g11⟩, Xv.mk g1 (by omega)⟩ Fc.rf.write Fm.rf.top.write (Nat.le_refl _) (fun _ _ => rfl) (fun _ _ => rfl) (Nat.le_refl _) (show sI (mWrite (wI μ 0 26 (nI n)) ch (8 + 16 * k0 + i) (sI μ 0 39) (sI μ 0 40)) 0 45 = _ by rw [mWrite_I _ _ _ _ _ _ _ (by decide) (by decide) (by decide) (by decide) (by decide) (by decide) (by decide) (Or.inr (by decide))]; exact m45) (show sI (mWrite (wI μ 0 26 (nI n)) ch (8 + 16 * k0 + i) (sI μ 0 39) (sI μ 0 40)) 0 26 = _ by rw [mWrite_I _ _ _ _ _ _ _ (by decide) (by decide) (by decide) (by decide) (by decide) (by decide) (by decide) (Or.inr (by decide))]; exact rfl) (show sI (mWrite (wI μ 0 26 (nI n)) ch (8 + 16 * k0 + i) (sI μ 0 39) (sI μ 0 40)) 0 36 = _ by rw [mWrite_I _ _ _ _ _ _ _ (by decide) (by decide) (by decide) (by decide) (by decide) (by decide) (by decide) (Or.inr (by decide))]; exact m36) ?_ ?_ kk
                · have hb2 := Bs.write (w := 8 + 16 * k0 + i) (μ := wI μ 0 26 (nI n)) hB t2 hV htyp
                  rw [t3] at hb2
                  exact hb2
                · rw [mWrite_I _ _ _ _ _ _ _ (by decide) (by decide) (by decide) (by decide) (by decide) (by decide) (by decide) (Or.inr (by decide)), mWrite_I _ _ _ _ _ _ _ (by decide) (by decide) (by decide) (by decide) (by decide) (by decide) (by decide) (Or.inr (by decide))]
                  exact hV
                · refine ms_up m36 ht0 (fun K q => m_up m26 (by omega) x21 ha60 x23 hk (by omega) p22 (by omega) (fun h _ => absurd h (by decide)) (fun h _ => absurd h (by decide)) (fun _ _ => ?_))
                  unfold wX11_upOf
                  repeat refine gS (by decide) ?_
                  refine ⟨fun _ => ?_, ?_⟩
                  · rw [et]
                    exact m_wp_93 (μ := wI μ 0 26 (nI n)) e5 hfl hvn en ty0 hok (m_w93_w e5 hfl hvn en hr a5 (by omega) b1 b2 hi1 hi2 hs5 hB.2.2.2.2.2.2.1.2.2.1 (by omega) q)
                  · repeat refine gS (by decide) ?_
                    intros; contradiction
              · repeat refine gS (by decide) ?_
                intros; contradiction
        · refine sv_fail (j := 3) (e := 2) (r := 2) (c := 2) c3 hRA c9 hn h22 ha r4 h24 (by omega) r0 hB hbdn hW hs (hcl.w (by omega)) hfl hC hφ m45 (by omega) rfl (by omega) (by omega) (fun lx ly hx hy Q' q => of_16 b 0 hb hov ?_) rfl ?_ kk
          · have hlx := hx (by rw [eX]; exact hr) _ a6 b3
            rw [hlx, b4, dY.num ty0, dY.fwt, ty0, ft_0, bt, fth_t, fp_no hi (by omega), f1_m (by rw [f1_l rfl rfl]) (by decide)]
            exact q

          · refine ms_up m36 ht0 (fun K q => m_up m26 (by omega) x21 ha60 x23 hk (by omega) p22 (by omega) (fun h _ => absurd h (by decide)) (fun h _ => absurd h (by decide)) (fun _ _ => ?_))
            unfold wX11_upOf
            repeat refine gS (by decide) ?_
            refine ⟨fun _ => ?_, ?_⟩
            · rw [et]
              exact m_wp_93 (μ := wI μ 0 26 (nI n)) e5 hfl hvn en ty0 hok (m_w93_i e5 hfl hvn en hr a5 (by omega) b1 b2 hi q)
            · repeat refine gS (by decide) ?_
              intros; contradiction
      · have bf : b = false := by
          cases b with
          | false => rfl
          | true => exact absurd (by rw [← eX]; exact hb.mp rfl) hr
        obtain ⟨e, he1, he8, he7, hee⟩ := ff_e (sI μ 24 n)
        refine sv_fail (j := 3) (e := e) (r := ff (sI μ 24 n)) (c := ff (sI μ 24 n)) c3 hRA c9 hn h22 ha r4 h24 (by omega) r0 hB hbdn hW hs (hcl.w (by omega)) hfl hC hφ m45 (by omega) hee he1 he8 (fun lx ly _ _ Q' q => of_16 b 0 hb hov ?_) (if_neg (ff_7 _)) ?_ kk
        · rw [dY.fwt, ty0, ft_0, bf, dX.fthn, f1_n (by rw [f1_l rfl rfl]; exact ff_n0 _), f1_l rfl rfl]; exact q
        · rw [← hee]
          refine ms_up m36 ht0 (fun K q => m_up m26 (by omega) x21 ha60 x23 hk (by omega) p22 (by omega) (fun h _ => absurd h (by decide)) (fun h _ => absurd h (by decide)) (fun _ _ => ?_))
          unfold wX11_upOf
          repeat refine gS (by decide) ?_
          refine ⟨fun _ => ?_, ?_⟩
          · rw [et]
            exact m_wp_93 (μ := wI μ 0 26 (nI n)) e5 hfl hvn en ty0 hok (m_w93_r e5 hfl hr q)
          · repeat refine gS (by decide) ?_
            intros; contradiction
    · by_cases hl : isRL (sI μ 24 n)
      · have hz : ¬ isLN (sI μ 0 39) := fun g => hok (Or.inl ⟨hl, g⟩)
        refine sv_fail (j := 3) (e := 4) (r := 4) (c := 4) c3 hRA c9 hn h22 ha r4 h24 (by omega) r0 hB hbdn hW hs (hcl.w (by omega)) hfl hC hφ m45 (by omega) rfl (by omega) (by omega) (fun lx ly hx hy Q' q => of_16 b 4 hb (Or.inr ⟨by rw [eX]; exact hl, Or.inr ⟨by rw [eZ]; exact hz, rfl⟩⟩) ?_) rfl ?_ kk
        · rw [dY.fwt, ty0, ft_0, f1_n (by rw [f1_m rfl (by decide)]; decide), f1_m rfl (by decide)]
          exact q

        · refine ms_up m36 ht0 (fun K q => m_up m26 (by omega) x21 ha60 x23 hk (by omega) p22 (by omega) (fun h _ => absurd h (by decide)) (fun h _ => absurd h (by decide)) (fun _ _ => ?_))
          unfold wX11_upOf
          repeat refine gS (by decide) ?_
          refine ⟨fun _ => ?_, ?_⟩
          · rw [et]
            exact m_wp_c (μ := wI μ 0 26 (nI n)) e5 hfl hvn en ty0 hl hz q
          · repeat refine gS (by decide) ?_
            intros; contradiction
      · have hz : ¬ sI μ 0 39 = 0 := fun g => hok (Or.inr ⟨hl, g⟩)
        obtain ⟨e, he1, he8, he7, hee⟩ := ft_e hz
        refine sv_fail (j := 3) (e := e) (r := ft (sI μ 0 39)) (c := ft (sI μ 0 39)) c3 hRA c9 hn h22 ha r4 h24 (by omega) r0 hB hbdn hW hs (hcl.w (by omega)) hfl hC hφ m45 (by omega) hee he1 he8 (fun lx ly _ _ Q' q => of_16 b (fw (sL σ 25 (3 * n + 2))) hb (Or.inl ⟨rfl, by rw [eX]; exact hl⟩) ?_) (if_neg (ft_7 hz)) ?_ kk
        · rw [dY.fwt, ty0, ft_0, hV.fwt, f1_n (by rw [f1_m rfl (ft_n0 hz)]; exact ft_n0 hz), f1_m rfl (ft_n0 hz)]; exact q
        · rw [← hee]
          refine ms_up m36 ht0 (fun K q => m_up m26 (by omega) x21 ha60 x23 hk (by omega) p22 (by omega) (fun h _ => absurd h (by decide)) (fun h _ => absurd h (by decide)) (fun _ _ => ?_))
          unfold wX11_upOf
          repeat refine gS (by decide) ?_
          refine ⟨fun _ => ?_, ?_⟩
          · rw [et]
            exact m_wp_z (μ := wI μ 0 26 (nI n)) e5 hfl hvn en ty0 hl hz q
          · repeat refine gS (by decide) ?_
            intros; contradiction
  · obtain ⟨ov, hov⟩ : ∃ ov : Int32, ov = fw (sL σ 25 (3 * n + 2)) ∧ ¬ isRL (srt (sL σ 25 (3 * n))) ∨ isRL (srt (sL σ 25 (3 * n))) ∧ (isLN (srt (sL σ 25 (3 * n + 2))) ∧ ov = 0 ∨ ¬ isLN (srt (sL σ 25 (3 * n + 2))) ∧ ov = 4) := by
      by_cases g : isRL (srt (sL σ 25 (3 * n)))
      · by_cases g2 : isLN (srt (sL σ 25 (3 * n + 2)))
        · exact ⟨0, Or.inr ⟨g, Or.inl ⟨g2, rfl⟩⟩⟩
        · exact ⟨4, Or.inr ⟨g, Or.inr ⟨g2, rfl⟩⟩⟩
      · exact ⟨_, Or.inl ⟨rfl, g⟩⟩
    obtain ⟨e, he1, he8, he7, hee⟩ := ft_e ty0
    refine sv_fail (j := 3) (e := e) (r := ft (sI μ 26 n)) (c := ft (sI μ 26 n)) c3 hRA c9 hn h22 ha r4 h24 (by omega) r0 hB hbdn hW hs (hcl.w (by omega)) hfl hC hφ m45 (by omega) hee he1 he8 (fun lx ly _ _ Q' q => of_16 b ov hb hov ?_) (if_neg (ft_7 ty0)) ?_ kk
    · rw [dY.fwt, f1_n (by rw [f1_n (ft_n0 ty0)]; exact ft_n0 ty0), f1_n (ft_n0 ty0)]; exact q
    · rw [← hee]
      refine ms_up m36 ht0 (fun K q => m_up m26 (by omega) x21 ha60 x23 hk (by omega) p22 (by omega) (fun h _ => absurd h (by decide)) (fun h _ => absurd h (by decide)) (fun _ _ => ?_))
      unfold wX11_upOf
      repeat refine gS (by decide) ?_
      refine ⟨fun _ => ?_, ?_⟩
      · rw [et]
        exact m_wp_y (μ := wI μ 0 26 (nI n)) e5 hfl hvn en ty0 q
      · repeat refine gS (by decide) ?_
        intros; contradiction
theorem toInt_nI {z : Nat} (h : z < 100) : (nI z).toInt = z := by
  have : ∀ z, z < 100 → (nI z).toInt = z := by decide
  exact this z h
theorem zcase {x : Int32} {l0 l1 : Nat} (h0 : l0 ≤ 16) (y1 : ¬ x < 0) (y2 : ¬ nI l0 < x) (y3 : ¬ nI l1 < x) : ∃ z, z ≤ l0 ∧ z ≤ l1 ∧ x = nI z := by
  rcases casesN x (n := 17) (by omega) with g | ⟨g1, g2⟩ | ⟨y, hy1, hy2⟩
  · exact absurd g y1
  · exfalso
    have := gt16 g2
    rw [Int32.lt_iff_toInt_lt] at this y2
    rw [toInt_nI (by omega)] at y2
    have e2 : (16 : Int32).toInt = 16 := by decide
    omega
  · refine ⟨y, ?_, ?_, hy2⟩
    · rcases Nat.lt_or_ge l0 y with g | g
      · exact absurd (by rw [hy2]; exact ltN _ _ rfl rfl g (by omega)) y2
      · exact g
    · rcases Nat.lt_or_ge l1 y with g | g
      · exact absurd (by rw [hy2]; exact ltN _ _ rfl rfl g (by omega)) y3
      · exact g
theorem sv19_2 {so dl ln : Nat → Nat} {th us lm mk ch tl cl fl na s lim n a f m φ : Nat} {σ μ : Sg} {Q : Sg → Prop} (h : Vx so dl ln th us lm mk ch tl cl fl na s lim n a f 19 2 m φ σ μ) (kk : ∀ σ' μ', MR μ μ' → Rr φ σ' μ' → Q σ') : TC σ Q := by
  obtain ⟨⟨hB, hbd, hRA, hs, hW⟩, hE, h24, hcl, hfl, hC, hφ, m45, m26, m36, hV, hX⟩ := h
  have hC0 := hC
  obtain ⟨c8, c9, c3, c4, c5⟩ := hC0
  rw [show n + 1 - 1 = n by omega] at c9
  have hbd0 := hbd
  obtain ⟨g1, g2, g3, g4, g5, g6, g7, g8, g9, g10, g11⟩ := hbd0
  obtain ⟨ha, hf, hk32, hcap, hm, h22, x21, h23, x23, hk, h26, x28, -, hst⟩ := id hE
  have h22 : sI σ 22 n = nI a := h22
  have h23 : sI σ 23 n = nI f := h23
  have h26 : sI σ 26 n = nI m := h26
  have ha60 : a < 60 := Nat.lt_of_lt_of_le ha hRA.2.2.1
  obtain ⟨k', hk', hk1, r0, r1, r2, r3, r4, r5, r6, r7, r8, r9, r10, r11⟩ := hRA.2.2.2 a ha
  have ek : 19 = k' := eqN (hk.symm.trans hk1) (by omega) (by omega)
  subst ek
  have e1 : sI σ 6 3 = nI us := hB.2.2.2.2.2.2.1.1
  have e5 : sI μ 0 44 = nI fl := hB.2.2.2.2.2.2.2.1.2.2.2.2.2.1
  have hn : n < 200 := by omega
  have hcn := cnt_le (P := isCl σ μ) n
  have et : sI μ 0 26 - (1 : Int32) = nI n := subN (n + 1) 1 m26 rfl (by omega)
  have hvn : vp_in (nI n) 220 := vp_in_nI (by omega) (by decide)
  have hva : vp_in (nI a) 60 := vp_in_nI ha60 (by decide)
  have en : (nI n).toNatClampNeg = n := nI_clamp (by omega)
  have ea : (nI a).toNatClampNeg = a := nI_clamp (by omega)
  have ht0 : ¬ sI μ 0 26 = 0 := neN (n + 1) 0 m26 rfl (by omega) (by omega) (by decide)
  have hcl : Cn cl ch s (17 * (n + 1) + 30) σ μ n := ⟨by have h := hcl.1; rw [if_neg (by decide)] at h; exact h, by have h := hcl.2; rw [if_pos (by decide)] at h; omega⟩
  have hc1 : cl = cnt (isCl σ μ) n := hcl.1
  have hc2 := hcl.2
  have hbdn : Bd th us lm mk ch tl cl s lim n := ⟨by omega, by omega, by omega, by omega, by omega, g6, g7, g8, g9, g10, g11⟩
  have hbdg : ∀ t : Int32, Bd th us lm mk ch tl cl s lim n ∧ Xv t us mk cl s n := fun t => ⟨hbdn, Xv.mk g1 (by omega)⟩
  obtain ⟨h27, p22, d1, d2, d3⟩ : sI σ 27 n = 0 ∧ sI μ 22 n = nI 2 ∧ (1 ≤ 2 → kpX 19 = true → V so dl th (sL σ 25 (3 * n)) (sI μ 24 n) (sI μ 25 n)) ∧ (2 ≤ 2 → V so dl th (sL σ 25 (3 * n + 1)) (sI μ 26 n) (sI μ 27 n)) ∧ (19 = 28 → 1 ≤ 2 → ∃ q, q < th ∧ so q = 7 ∧ sL σ 25 (3 * n) = pk 7 (nI (dl q)) ∧ sI μ 25 n = nI q) := by
    rcases hst with h | h
    · exact h
    · exact absurd h.1 (by decide)
  have dX := d1 (by decide) (by decide)
  have dY := d2 (by decide)
  have eX : srt (sL σ 25 (3 * n)) = sI μ 24 n := dX.srt
  have eY : srt (sL σ 25 (3 * n + 1)) = sI μ 26 n := dY.srt
  have rl : ∀ t : Int32, isRw t → (isRL t ↔ ¬ t = 2) := by
    intro t ht
    unfold isRL
    rcases ht with r | r | r
    · rw [r]; decide
    · rw [r]; decide
    · rw [r]; decide
  by_cases tz0 : sI μ 0 39 = 0
  · have z0 : fw (sL σ 25 (3 * n + 2)) = 0 := by rw [hV.fwt, tz0]; rfl
    have nn2 : isRw (sI μ 24 n) → isRw (sI μ 26 n) → ¬ (sI μ 24 n = 1 ∨ sI μ 26 n = 1) := by
      intro h1 h2 h3
      rcases h3 with g | g
      · rw [g] at h1
        exact absurd h1 (by unfold isRw; decide)
      · rw [g] at h2
        exact absurd h2 (by unfold isRw; decide)
    have nn1 : isRw (srt (sL σ 25 (3 * n))) → isRw (srt (sL σ 25 (3 * n + 1))) → ¬ (sI μ 24 n = 1 ∨ sI μ 26 n = 1) := by
      rw [eX, eY]
      exact nn2
    have cv : (isRw (srt (sL σ 25 (3 * n))) ∧ isRw (srt (sL σ 25 (3 * n + 1))) ∧ (isRL (srt (sL σ 25 (3 * n))) ↔ isRL (srt (sL σ 25 (3 * n + 1))))) → (isRw (sI μ 24 n) ∧ isRw (sI μ 26 n) ∧ (sI μ 24 n = 2 ↔ sI μ 26 n = 2)) := by
      rw [eX, eY]
      rintro ⟨q1, q2, q3⟩
      rw [rl _ q1, rl _ q2] at q3
      exact ⟨q1, q2, by constructor <;> intro g <;> exact Classical.byContradiction (fun h => by first | exact q3.mpr h g | exact q3.mp h g)⟩
    have cv2 : (isRw (sI μ 24 n) ∧ isRw (sI μ 26 n) ∧ (sI μ 24 n = 2 ↔ sI μ 26 n = 2)) → (isRw (srt (sL σ 25 (3 * n))) ∧ isRw (srt (sL σ 25 (3 * n + 1))) ∧ (isRL (srt (sL σ 25 (3 * n))) ↔ isRL (srt (sL σ 25 (3 * n + 1))))) := by
      rw [eX, eY]
      rintro ⟨q1, q2, q3⟩
      refine ⟨q1, q2, ?_⟩
      rw [rl _ q1, rl _ q2, q3]
    by_cases hn1 : sI μ 24 n = 1 ∨ sI μ 26 n = 1
    · refine sv_fail (j := 3) (e := 1) (r := 1) (c := 1) c3 hRA c9 hn h22 ha r4 h24 (by omega) r0 hB hbdn hW hs (hcl.w (by omega)) hfl hC hφ m45 (by omega) rfl (by omega) (by omega) (fun lx ly hx hy Q' q => of_19 (fun h => absurd z0 h) (fun _ _ => q) (fun _ h1 h2 => ?_) (fun _ h1 h2 => ?_) (fun _ h1 h2 => ?_)) rfl ?_ kk
      · rcases hn1 with g | g
        · exact absurd (dX.none_iff.mpr g) h1
        · exact absurd (dY.none_iff.mpr g) h2
      · exact absurd hn1 (nn1 h1 h2)
      · exact absurd hn1 (nn1 h1 h2)
      · refine ms_up m36 ht0 (fun K q => m_up m26 (by omega) x21 ha60 x23 hk (by omega) p22 (by omega) (fun h _ => absurd h (by decide)) (fun h _ => absurd h (by decide)) (fun _ _ => ?_))
        unfold wX11_upOf
        repeat refine gS (by decide) ?_
        refine ⟨fun _ => ?_, ?_⟩
        · rw [et]
          exact m_cp (μ := wI μ 0 26 (nI n)) e5 hfl hvn en (fun h => absurd tz0 h) (fun _ _ => q) (fun _ h1 h2 => absurd hn1 (fun g => by rcases g with g | g; exact h1 g; exact h2 g)) (fun _ h1 h2 => absurd hn1 (nn2 h1 h2))
        · repeat refine gS (by decide) ?_
          intros; contradiction
    · by_cases hrr : isRw (sI μ 24 n) ∧ isRw (sI μ 26 n) ∧ (sI μ 24 n = 2 ↔ sI μ 26 n = 2)
      · obtain ⟨k0, a1, a2, a3, a4, a5, a6⟩ := dX.row hrr.1
        obtain ⟨b1, b2, b3, b4⟩ := hB.len a1 a3
        obtain ⟨k1, c1, c2, c3', c4', c5, c6⟩ := dY.row hrr.2.1
        obtain ⟨w1, w2, w3, w4⟩ := hB.len c1 c3'
        have nZ : nbr (sL σ 25 (3 * n + 2)) = sI μ 0 40 := hV.num tz0
        have hso : so k0 = 2 ↔ so k1 = 2 := by
          have hh := hrr.2.2
          rw [a4, c4'] at hh
          constructor
          · intro g
            exact eqN (hh.mp (by rw [g]; rfl)) (by omega) (by decide)
          · intro g
            exact eqN (hh.mpr (by rw [g]; rfl)) (by omega) (by decide)
        by_cases hz : ∃ z, z ≤ ln k0 ∧ z ≤ ln k1 ∧ sI μ 0 40 = nI z
        · obtain ⟨z, z1, z2, z3⟩ := hz
          obtain ⟨r, σ', μ', ch', o1, o2, o3, o4, o5, o6, o7, o8, o9⟩ := copy_ok (n := n) (a := nI a) (ty := sI μ 26 n) (X := sL σ 25 (3 * n)) (Y := sL σ 25 (3 * n + 1)) (by omega) (by omega) hfl a1 c1 a3 c3' hso a6 c6 eY c4' z1 z2 z 0 ch σ (wI μ 0 26 (nI n)) (by omega) (by omega) hB z3
          refine sv_work (j := 3) c3 hRA c9 hn h22 ha r4 h24 (by omega) r0 hB (by omega) (fun lx ly hx hy Q' q => of_19 (fun h => absurd z0 h) (fun _ h => ?_) (fun _ _ _ h => ?_) (fun _ _ _ _ h1 => ?_) (fun _ _ _ _ _ _ => q)) ?_
          · exact absurd (by rcases h with g | g; exact Or.inl (dX.none_iff.mp g); exact Or.inr (dY.none_iff.mp g)) hn1
          · exact absurd (cv2 hrr) h
          · have hlx := hx (by rw [eX]; exact hrr.1) _ a6 b3
            have hly := hy (by rw [eY]; exact hrr.2.1) _ c6 w3
            have hmin : (if ly < lx then ly else lx) = nI (if ln k1 < ln k0 then ln k1 else ln k0) := by
              rw [hlx, hly, b4, w4]
              by_cases g : ln k1 < ln k0
              · rw [if_pos g, if_pos (ltN _ _ rfl rfl g (by omega))]
              · rw [if_neg g, if_neg (nltN _ _ rfl rfl (by omega) (by omega))]
            rw [hmin, nZ, z3] at h1
            rcases h1 with h1 | h1
            · exact absurd h1 (nn0 z rfl (by omega))
            · exact absurd h1 (nltN _ _ rfl rfl (by split <;> omega) (by split <;> omega))
          · refine wk_sel hRA.1 hRA.2.2.1 c9 hn h22 ha r0 ?_ (by omega)
            refine ⟨fun q => absurd q (by decide), fun _ => ?_, fun q => absurd q (by decide), fun q => absurd q (by decide), fun q => absurd q (by decide), fun q => absurd q (by decide), fun q => absurd q (by decide), fun q => absurd q (by decide), fun q => absurd q (by decide), fun q => absurd q (by decide)⟩
            unfold wX6_copy
            refine c_value (w := 2) c9 hn rfl (by omega) (c_value (w := 0) c9 hn rfl (by omega) (c_value (w := 1) c9 hn rfl (by omega) (c_number ?_)))
            rw [Nat.add_zero, nZ, z3]
            refine ⟨z + 1, o8 _ ?_⟩
            rcases o1 with rfl | rfl
            · refine gT rfl ?_
              refine fin_fail (e := 5) (μ' := μ') (ch' := ch') hW hRA hs (hcl.w (by omega)) hfl hn hC hφ h22 o3 ⟨by omega, by omega, by omega, by omega, by omega, g6, g7, g8, g9, g10, g11⟩ o4 o5 (Fm.tr Fm.rf.top o6) ((o7 45 (by decide)).trans m45) ((o7 26 (by decide)).trans rfl) rfl (by omega) (by omega) rfl ?_ kk
              refine ms_up m36 ht0 (fun K q => m_up m26 (by omega) x21 ha60 x23 hk (by omega) p22 (by omega) (fun h _ => absurd h (by decide)) (fun h _ => absurd h (by decide)) (fun _ _ => ?_))
              unfold wX11_upOf
              repeat refine gS (by decide) ?_
              refine ⟨fun _ => ?_, ?_⟩
              · rw [et]
                refine m_cp (μ := wI μ 0 26 (nI n)) e5 hfl hvn en (fun h => absurd tz0 h) (fun _ h => absurd h hn1) (fun _ _ _ h => absurd hrr h) (fun _ _ _ _ s0 => ?_)
                unfold wX11_copyPlaces_82
                rw [en]
                have f1' : sI (wI μ 0 26 (nI n)) 25 n = nI k0 := a5
                have f2' : sI (wI μ 0 26 (nI n)) 27 n = nI k1 := c5
                have f3' : sI (wI μ 0 26 (nI n)) 5 k0 = nI (ln k0) := b1
                have f4' : sI (wI μ 0 26 (nI n)) 5 k1 = nI (ln k1) := w1
                have f5' : sI (wI μ 0 26 (nI n)) 0 40 = nI z := z3
                rw [f1', f2', nI_clamp (by omega), nI_clamp (by omega), f3', f4', f5']
                refine gT rfl ⟨hvn, hvn, gF (nn0 z rfl (by omega)) ⟨vp_in_nI (by omega) (by decide), gF (nltN _ _ rfl rfl (by omega) (by omega)) ⟨vp_in_nI (by omega) (by decide), gF (nltN _ _ rfl rfl (by omega) (by omega)) ⟨z + 1, o9 _ (fun h => absurd h (by decide)) (fun _ => q)⟩⟩⟩⟩
              · repeat refine gS (by decide) ?_
                intros; contradiction
            · refine gF ne10 ?_
              refine fin_give (so' := so) (dl' := dl) (ln' := ln) (th' := th) (us' := us) (lm' := lm) (mk' := mk) (tl' := tl) (cl' := cl) (ch' := ch') (μ' := μ') hW hRA hs (hcl.w (by omega)) hfl hn hC hφ o3 ⟨⟨by omega, by omega, by omega, by omega, by omega, g6, g7, g8, g9, g10, g11⟩, Xv.mk g1 (by omega)⟩ o4 (Fm.tr Fm.rf.top o6) (Nat.le_refl _) (fun _ _ => rfl) (fun _ _ => rfl) (Nat.le_refl _) ((o7 45 (by decide)).trans m45) ((o7 26 (by decide)).trans rfl) ((o7 36 (by decide)).trans m36) ?_ ?_ kk
              · rw [o7 39 (by decide), o7 40 (by decide)]
                exact hV
              · refine ms_up m36 ht0 (fun K q => m_up m26 (by omega) x21 ha60 x23 hk (by omega) p22 (by omega) (fun h _ => absurd h (by decide)) (fun h _ => absurd h (by decide)) (fun _ _ => ?_))
                unfold wX11_upOf
                repeat refine gS (by decide) ?_
                refine ⟨fun _ => ?_, ?_⟩
                · rw [et]
                  refine m_cp (μ := wI μ 0 26 (nI n)) e5 hfl hvn en (fun h => absurd tz0 h) (fun _ h => absurd h hn1) (fun _ _ _ h => absurd hrr h) (fun _ _ _ _ s0 => ?_)
                  unfold wX11_copyPlaces_82
                  rw [en]
                  have f1' : sI (wI μ 0 26 (nI n)) 25 n = nI k0 := a5
                  have f2' : sI (wI μ 0 26 (nI n)) 27 n = nI k1 := c5
                  have f3' : sI (wI μ 0 26 (nI n)) 5 k0 = nI (ln k0) := b1
                  have f4' : sI (wI μ 0 26 (nI n)) 5 k1 = nI (ln k1) := w1
                  have f5' : sI (wI μ 0 26 (nI n)) 0 40 = nI z := z3
                  rw [f1', f2', nI_clamp (by omega), nI_clamp (by omega), f3', f4', f5']
                  refine gT rfl ⟨hvn, hvn, gF (nn0 z rfl (by omega)) ⟨vp_in_nI (by omega) (by decide), gF (nltN _ _ rfl rfl (by omega) (by omega)) ⟨vp_in_nI (by omega) (by decide), gF (nltN _ _ rfl rfl (by omega) (by omega)) ⟨z + 1, o9 _ (fun _ => q) (fun h => absurd h (by decide))⟩⟩⟩⟩
                · repeat refine gS (by decide) ?_
                  intros; contradiction
        · refine sv_fail (j := 3) (e := 2) (r := 2) (c := 2) c3 hRA c9 hn h22 ha r4 h24 (by omega) r0 hB hbdn hW hs (hcl.w (by omega)) hfl hC hφ m45 (by omega) rfl (by omega) (by omega) (fun lx ly hx hy Q' q => of_19 (fun h => absurd z0 h) (fun _ h => ?_) (fun _ _ _ h => ?_) (fun _ _ _ _ _ => q) (fun _ _ _ _ h1 h2 => ?_)) rfl ?_ kk
          · exact absurd (by rcases h with g | g; exact Or.inl (dX.none_iff.mp g); exact Or.inr (dY.none_iff.mp g)) hn1
          · exact absurd (cv2 hrr) h
          · have hlx := hx (by rw [eX]; exact hrr.1) _ a6 b3
            have hly := hy (by rw [eY]; exact hrr.2.1) _ c6 w3
            have hmin : (if ly < lx then ly else lx) = nI (if ln k1 < ln k0 then ln k1 else ln k0) := by
              rw [hlx, hly, b4, w4]
              by_cases g : ln k1 < ln k0
              · rw [if_pos g, if_pos (ltN _ _ rfl rfl g (by omega))]
              · rw [if_neg g, if_neg (nltN _ _ rfl rfl (by omega) (by omega))]
            rw [hmin, nZ] at h2
            rw [nZ] at h1
            exact absurd (by
              rcases casesN (sI μ 0 40) (n := 17) (by omega) with g | ⟨y1, y2⟩ | ⟨y, hy1, hy2⟩
              · exact absurd g h1
              · refine absurd ?_ h2
                have := gt16 y2
                rw [Int32.lt_iff_toInt_lt] at this ⊢
                rw [toInt_nI (by split <;> omega)]
                have e2 : (16 : Int32).toInt = 16 := by decide
                split <;> omega
              · refine ⟨y, ?_, ?_, hy2⟩
                · rcases Nat.lt_or_ge (ln k0) y with g | g
                  · exact absurd (by rw [hy2]; exact ltN _ _ rfl rfl (by split <;> omega) (by omega)) h2
                  · exact g
                · rcases Nat.lt_or_ge (ln k1) y with g | g
                  · exact absurd (by rw [hy2]; exact ltN _ _ rfl rfl (by split <;> omega) (by omega)) h2
                  · exact g) hz
          · refine ms_up m36 ht0 (fun K q => m_up m26 (by omega) x21 ha60 x23 hk (by omega) p22 (by omega) (fun h _ => absurd h (by decide)) (fun h _ => absurd h (by decide)) (fun _ _ => ?_))
            unfold wX11_upOf
            repeat refine gS (by decide) ?_
            refine ⟨fun _ => ?_, ?_⟩
            · rw [et]
              refine m_cp (μ := wI μ 0 26 (nI n)) e5 hfl hvn en (fun h => absurd tz0 h) (fun _ h => absurd h hn1) (fun _ _ _ h => absurd hrr h) (fun _ _ _ _ s0 => ?_)
              unfold wX11_copyPlaces_82 wX11_copyPlaces_143
              rw [en]
              have f1' : sI (wI μ 0 26 (nI n)) 25 n = nI k0 := a5
              have f2' : sI (wI μ 0 26 (nI n)) 27 n = nI k1 := c5
              have f3' : sI (wI μ 0 26 (nI n)) 5 k0 = nI (ln k0) := b1
              have f4' : sI (wI μ 0 26 (nI n)) 5 k1 = nI (ln k1) := w1
              rw [f1', f2', nI_clamp (by omega), nI_clamp (by omega), f3', f4']
              refine gT rfl ⟨hvn, hvn, fun _ => m_failBy e5 hfl q, fun y1 => ⟨vp_in_nI (by omega) (by decide), fun _ => m_failBy e5 hfl q, fun y2 => ⟨vp_in_nI (by omega) (by decide), fun _ => m_failBy e5 hfl q, fun y3 => absurd ?_ hz⟩⟩⟩
              exact zcase b2 y1 y2 y3
            · repeat refine gS (by decide) ?_
              intros; contradiction
      · refine sv_fail (j := 3) (e := 5) (r := 5) (c := 5) c3 hRA c9 hn h22 ha r4 h24 (by omega) r0 hB hbdn hW hs (hcl.w (by omega)) hfl hC hφ m45 (by omega) rfl (by omega) (by omega) (fun lx ly hx hy Q' q => of_19 (fun h => absurd z0 h) (fun _ h => ?_) (fun _ _ _ _ => q) (fun _ h1 h2 h3 => ?_) (fun _ h1 h2 h3 => ?_)) rfl ?_ kk
        · exact absurd (by rcases h with g | g; exact Or.inl (dX.none_iff.mp g); exact Or.inr (dY.none_iff.mp g)) hn1
        · exact absurd (cv ⟨h1, h2, h3⟩) hrr
        · exact absurd (cv ⟨h1, h2, h3⟩) hrr
        · refine ms_up m36 ht0 (fun K q => m_up m26 (by omega) x21 ha60 x23 hk (by omega) p22 (by omega) (fun h _ => absurd h (by decide)) (fun h _ => absurd h (by decide)) (fun _ _ => ?_))
          unfold wX11_upOf
          repeat refine gS (by decide) ?_
          refine ⟨fun _ => ?_, ?_⟩
          · rw [et]
            exact m_cp (μ := wI μ 0 26 (nI n)) e5 hfl hvn en (fun h => absurd tz0 h) (fun _ h => absurd h hn1) (fun _ _ _ _ => q) (fun _ h1 h2 h3 => absurd ⟨h1, h2, h3⟩ hrr)
          · repeat refine gS (by decide) ?_
            intros; contradiction
  · have n0 : ¬ fw (sL σ 25 (3 * n + 2)) = 0 := by
      rw [hV.fwt]
      exact ft_n0 tz0
    obtain ⟨e, he1, he8, he7, hee⟩ := ft_e tz0
    refine sv_fail (j := 3) (e := e) (r := ft (sI μ 0 39)) (c := ft (sI μ 0 39)) c3 hRA c9 hn h22 ha r4 h24 (by omega) r0 hB hbdn hW hs (hcl.w (by omega)) hfl hC hφ m45 (by omega) hee he1 he8 (fun lx ly _ _ Q' q => of_19 (fun _ => by rw [hV.fwt]; exact q) (fun h => absurd h n0) (fun h => absurd h n0) (fun h => absurd h n0) (fun h => absurd h n0)) (if_neg (ft_7 tz0)) ?_ kk
    rw [← hee]
    refine ms_up m36 ht0 (fun K q => m_up m26 (by omega) x21 ha60 x23 hk (by omega) p22 (by omega) (fun h _ => absurd h (by decide)) (fun h _ => absurd h (by decide)) (fun _ _ => ?_))
    unfold wX11_upOf
    repeat refine gS (by decide) ?_
    refine ⟨fun _ => ?_, ?_⟩
    · rw [et]
      exact m_cp (μ := wI μ 0 26 (nI n)) e5 hfl hvn en (fun _ => q) (fun h => absurd h tz0) (fun h => absurd h tz0) (fun h => absurd h tz0)
    · repeat refine gS (by decide) ?_
      intros; contradiction
