theorem gt16 {x : Int32} (h : ¬ x < nI 17) : (16 : Int32) < x := by
  rw [Int32.lt_iff_toInt_lt] at h ⊢
  have e1 : (nI 17).toInt = 17 := by decide
  have e2 : (16 : Int32).toInt = 16 := by decide
  omega
theorem ngt16 {z : Nat} (h : z < 17) : ¬ (16 : Int32) < nI z := nltN 16 z rfl rfl (by omega) (by omega)
section RP
variable {so dl ln : Nat → Nat} {th us lm mk ch tl cl fl na lim k i : Nat} {σ μ : Sg} {v : Int64} {t x : Int32}
theorem w_div {k i : Nat} (h : i < 16) : (8 + 16 * k + i - 8) / 16 = k ∧ (8 + 16 * k + i - 8) % 16 = i := by omega
theorem Bs.place (hB : Bs so dl ln th us lm mk ch tl cl fl na lim σ μ) (hk : k < th) (h4 : so k ≤ 4) (hi : i < ln k) : i < 16 ∧ vld so ln th (8 + 16 * k + i) ∧ cad so dl (8 + 16 * k + i) = dl k + 1 + i ∧ dl k + 1 + i < us ∧ V so dl th (sL σ 7 (dl k + 1 + i)) (sI μ 6 (16 * k + i)) (sI μ 7 (16 * k + i)) ∧ typ so (8 + 16 * k + i) (sI μ 6 (16 * k + i)) := by
  obtain ⟨-, -, h3, -, -⟩ := hB.1.1 k hk
  obtain ⟨a1, a2, a3, a4, a5⟩ := h3 h4
  have h16 : i < 16 := by omega
  obtain ⟨e1, e2⟩ := w_div (k := k) h16
  have hv : vld so ln th (8 + 16 * k + i) := by
    refine Or.inr ⟨by omega, ?_, ?_⟩
    · rw [e1]; exact hk
    · rw [e1, e2]; exact Or.inl ⟨h4, hi⟩
  have hc : cad so dl (8 + 16 * k + i) = dl k + 1 + i := by
    unfold cad
    rw [if_neg (by omega), e1, e2, if_pos h4]
  have hm := hB.2.1 _ hv
  rw [hc] at hm
  have x1 : mT μ (8 + 16 * k + i) = sI μ 6 (16 * k + i) := by
    unfold mT
    rw [if_neg (by omega), show 8 + 16 * k + i - 8 = 16 * k + i by omega]
  have x2 : mN μ (8 + 16 * k + i) = sI μ 7 (16 * k + i) := by
    unfold mN
    rw [if_neg (by omega), show 8 + 16 * k + i - 8 = 16 * k + i by omega]
  rw [x1, x2] at hm
  exact ⟨h16, hv, hc, by omega, hm.1, hm.2⟩
theorem Bs.held (hB : Bs so dl ln th us lm mk ch tl cl fl na lim σ μ) (hk : k < th) (h5 : 5 ≤ so k) (h6 : so k ≤ 6) : vld so ln th (8 + 16 * k) ∧ cad so dl (8 + 16 * k) = dl k ∧ dl k < us ∧ V so dl th (sL σ 7 (dl k)) (sI μ 6 (16 * k)) (sI μ 7 (16 * k)) := by
  obtain ⟨-, -, -, h3, -⟩ := hB.1.1 k hk
  obtain ⟨a1, a2, a3⟩ := h3 h5 h6
  obtain ⟨e1, e2⟩ := w_div (k := k) (i := 0) (by omega)
  rw [Nat.add_zero] at e1 e2
  have hv : vld so ln th (8 + 16 * k) := by
    refine Or.inr ⟨by omega, ?_, ?_⟩
    · rw [e1]; exact hk
    · rw [e1, e2]; exact Or.inr ⟨h5, h6, rfl⟩
  have hc : cad so dl (8 + 16 * k) = dl k := by
    unfold cad
    rw [if_neg (by omega), e1, if_neg (by omega)]
  have hm := hB.2.1 _ hv
  rw [hc] at hm
  have x1 : mT μ (8 + 16 * k) = sI μ 6 (16 * k) := by
    unfold mT
    rw [if_neg (by omega), show 8 + 16 * k - 8 = 16 * k by omega]
  have x2 : mN μ (8 + 16 * k) = sI μ 7 (16 * k) := by
    unfold mN
    rw [if_neg (by omega), show 8 + 16 * k - 8 = 16 * k by omega]
  rw [x1, x2] at hm
  exact ⟨hv, hc, by omega, hm.1⟩
theorem typ_held (h5 : 5 ≤ so k) : typ so (8 + 16 * k) t := by
  intro _
  obtain ⟨e1, e2⟩ := w_div (k := k) (i := 0) (by omega)
  rw [Nat.add_zero] at e1
  rw [e1]
  exact ⟨fun h => by omega, fun h => by omega, fun h => by omega⟩
theorem Bs.len (hB : Bs so dl ln th us lm mk ch tl cl fl na lim σ μ) (hk : k < th) (h4 : so k ≤ 4) : sI μ 5 k = nI (ln k) ∧ ln k ≤ 16 ∧ dl k < us ∧ nbr (sL σ 7 (dl k)) = nI (ln k) := by
  obtain ⟨-, -, h3, -, -⟩ := hB.1.1 k hk
  obtain ⟨a1, a2, a3, a4, a5⟩ := h3 h4
  exact ⟨a1, a2, by omega, by rw [a5, nbr_pk]⟩
theorem Bs.dlb (hB : Bs so dl ln th us lm mk ch tl cl fl na lim σ μ) (hu : us ≤ 1708) (hl : lm ≤ 1708) : ∀ k, k < th → dl k < 10000 := by
  intro k hk
  obtain ⟨h1, h2, h3, h4, h5⟩ := hB.1.1 k hk
  rcases Nat.lt_or_ge 4 (so k) with g | g
  · rcases Nat.lt_or_ge 6 (so k) with g2 | g2
    · have := h5 (by omega)
      omega
    · have := h4 (by omega) g2
      omega
  · have := h3 g
    omega
/-- a value of a row's sort is a thing -/
theorem V.row (h : V so dl th v t x) (hr : isRw t) : ∃ k, k < th ∧ 2 ≤ so k ∧ so k ≤ 4 ∧ t = nI (so k) ∧ x = nI k ∧ nbr v = nI (dl k) := by
  obtain ⟨k, a1, a2, a3, a4, a5, a6, -⟩ := h.thing (by rcases hr with r | r | r <;> rw [r] <;> decide) (by rcases hr with r | r | r <;> rw [r] <;> decide)
  refine ⟨k, a1, a2, ?_, a4, a5, a6⟩
  rcases hr with r | r | r
  · have := V.sort_of (so := so) (k := k) (j := 2) (r.symm.trans a4) (by omega) a3; omega
  · have := V.sort_of (so := so) (k := k) (j := 3) (r.symm.trans a4) (by omega) a3; omega
  · have := V.sort_of (so := so) (k := k) (j := 4) (r.symm.trans a4) (by omega) a3; omega
theorem V.lnk (h : V so dl th v t x) (hr : isLk t) : ∃ k, k < th ∧ 5 ≤ so k ∧ so k ≤ 6 ∧ t = nI (so k) ∧ x = nI k ∧ nbr v = nI (dl k) := by
  obtain ⟨k, a1, a2, a3, a4, a5, a6, -⟩ := h.thing (by rcases hr with r | r <;> rw [r] <;> decide) (by rcases hr with r | r <;> rw [r] <;> decide)
  refine ⟨k, a1, ?_, ?_, a4, a5, a6⟩
  · rcases hr with r | r
    · have := V.sort_of (so := so) (k := k) (j := 5) (r.symm.trans a4) (by omega) a3; omega
    · have := V.sort_of (so := so) (k := k) (j := 6) (r.symm.trans a4) (by omega) a3; omega
  · rcases hr with r | r
    · have := V.sort_of (so := so) (k := k) (j := 5) (r.symm.trans a4) (by omega) a3; omega
    · have := V.sort_of (so := so) (k := k) (j := 6) (r.symm.trans a4) (by omega) a3; omega
theorem V.fthn (h : V so dl th v t x) : fth v false = ff t := by
  unfold fth ff
  rw [if_neg (by decide)]
  by_cases h1 : t = 1
  · rw [if_pos h1, if_pos (h.none_iff.mpr h1)]
  · rw [if_neg h1, if_neg (fun g => h1 (h.none_iff.mp g))]
end RP
section MR2
variable {μ : Sg} {K : Sg → Prop} {fl th z : Nat} {a : Int32}
theorem m_zl {c t z : Nat} {l : Int32} (hc : c = 16 * t) (hcz : c + z ≤ 3520) : ∀ (d i : Nat), i + d = z → wX11_makeRow_89 (mZero μ c z) 10 l K → l = nI t → wX11_makeRow_57 (d + 1) (mZero μ c i) 10 (nI z) l (nI i) K
  | 0, i, h, q, hl => by
    unfold wX11_makeRow_57
    have : i = z := by omega
    subst this
    exact gF (nltN i i rfl rfl (by omega) (by omega)) q
  | d + 1, i, h, q, hl => by
    unfold wX11_makeRow_57
    have e : ((16 : Int32) * l) + nI i = nI (c + i) := by
      rw [hc]
      exact addN (16 * t) i (mulN 16 t rfl hl) rfl
    rw [e, nI_clamp (by omega), nI_1]
    exact gT (ltN i z rfl rfl (by omega) (by omega)) (gT rfl ⟨vp_in_nI (by omega) (by decide), m_zl hc hcz d (i + 1) (by omega) q hl⟩)
theorem m_row {kd s0 : Nat} (h : sI μ 0 44 = nI fl) (hf : fl ≤ 20) (hk : (kd = 10 ∧ s0 = 2) ∨ (kd = 11 ∧ s0 = 3) ∨ (kd = 12 ∧ s0 = 4)) (h0 : sI μ 0 39 = 0) (hz : sI μ 0 40 = nI z) (hz16 : z < 17) (h6 : sI μ 0 6 = nI th) (hth : th < 220) (q : K (mVal (mRow μ th z s0) (nI s0) (nI th))) : wX11_makeRow μ a (nI kd) K := by
  unfold wX11_makeRow
  refine m_isWhole h hf (fun _ => gF ne10 ?_) (fun g => absurd h0 g)
  rw [hz]
  refine gF (nn0 z rfl (by omega)) (gF (ngt16 hz16) (m_newThing h6 hth ?_))
  unfold mRow at q
  rcases hk with ⟨rfl, rfl⟩ | ⟨rfl, rfl⟩ | ⟨rfl, rfl⟩
  · refine ⟨z + 1, m_zl (c := 16 * th) (t := th) rfl (by omega) z 0 (by omega) ?_ rfl⟩
    exact gT rfl q
  · refine ⟨1, ?_⟩
    unfold wX11_makeRow_57
    exact ⟨fun _ => gF (by decide) (gF (by decide) (gT rfl q)), fun _ => gF (by decide) (gT rfl q)⟩
  · refine ⟨1, ?_⟩
    unfold wX11_makeRow_57
    exact ⟨fun _ => gF (by decide) (gF (by decide) (gF (by decide) q)), fun _ => gF (by decide) (gF (by decide) q)⟩
end MR2
section OF2
variable {σ : Sg} {x y z : Int64} {lx ly : Int32} {Q : Int32 → Sg → Prop}
theorem of_16 (b : Bool) (ov : Int32) (hb : b = true ↔ isRw (srt x)) (hov : ov = fw z ∧ ¬ isRL (srt x) ∨ isRL (srt x) ∧ (isLN (srt z) ∧ ov = 0 ∨ ¬ isLN (srt z) ∧ ov = 4)) (q : Q (f1 (f1 (fw y) ov (fth x b)) (fp (nbr y) lx) (if srt x = 4 ∧ srt z = 5 then 5 else 0)) σ) : wX2_of σ (nI 16) x y z lx ly Q := by
  have p29 : wX2_ofWrite_29 σ x y z lx ov Q := by
    unfold wX2_ofWrite_29 wX2_ofWrite_73
    refine c_ofWhole ?_
    have fin : wX2_firstOf σ (fw y) ov (fth x b) (fun r8 σ7 => wX9_number σ7 y (fun r10 σ9 => wX2_ofPlace σ9 r10 lx (fun r12 σ11 => wX9_isStrange σ11 x z (fun r14 σ13 => (r14 = 0 → wX2_firstOf σ13 r8 r12 0 (fun r2 σ1 => Q r2 σ1)) ∧ (¬ r14 = 0 → wX2_firstOf σ13 r8 r12 5 (fun r2 σ1 => Q r2 σ1)))))) := by
      refine c_firstOf (c_number (c_ofPlace (c_isStrange (fun g => ?_) (fun g => ?_))))
      · rw [if_pos g] at q
        exact gF ne10 (c_firstOf q)
      · rw [if_neg g] at q
        exact gT rfl (c_firstOf q)
    refine c_isRow (fun g => ?_) (fun g => ?_)
    · exact c_ofThing2 b (by rw [if_pos (hb.mpr g)]) fin
    · exact c_ofThing2 b (by rw [if_neg (fun h => g (hb.mp h))]) fin
  unfold wX2_of
  repeat refine gS (by decide) ?_
  refine ⟨fun _ => ?_, ?_⟩
  · unfold wX2_ofWrite wX2_ofWrite_27
    refine c_ofWhole (c_isRowForLinks (fun g => gF ne10 (c_isLinkOrNothing (fun g2 => gF ne10 ?_) (fun g2 => gT rfl ?_))) (fun g => gT rfl ?_))
    · rcases hov with ⟨-, h⟩ | ⟨-, ⟨-, h⟩ | ⟨h, -⟩⟩
      · exact absurd g h
      · rw [← h]; exact p29
      · exact absurd g2 h
    · rcases hov with ⟨-, h⟩ | ⟨-, ⟨h, -⟩ | ⟨-, h⟩⟩
      · exact absurd g h
      · exact absurd h g2
      · rw [← h]; exact p29
    · rcases hov with ⟨h, -⟩ | ⟨h, -⟩
      · rw [← h]; exact p29
      · exact absurd h g
  · repeat refine gS (by decide) ?_
    intros; contradiction
end OF2
section OF3
variable {σ : Sg} {x y z : Int64} {lx ly : Int32} {Q : Int32 → Sg → Prop} {kd : Nat}
theorem of_newW (hk : kd = 10 ∨ kd = 11 ∨ kd = 12) (h : ¬ fw x = 0) (q : Q (fw x) σ) : wX2_of σ (nI kd) x y z lx ly Q := of_new hk (by rw [f1_n h]; exact q)
theorem of_newS (hk : kd = 10 ∨ kd = 11 ∨ kd = 12) (h : fw x = 0) (hn : nbr x < 0) (q : Q 3 σ) : wX2_of σ (nI kd) x y z lx ly Q := of_new hk (by
  have e : fl (nbr x) = 3 := if_pos hn
  rw [e, f1_m h (by decide)]; exact q)
theorem of_newL (hk : kd = 10 ∨ kd = 11 ∨ kd = 12) (h : fw x = 0) (hn : ¬ nbr x < 0) (hb : 16 < nbr x) (q : Q 12 σ) : wX2_of σ (nI kd) x y z lx ly Q := of_new hk (by
  have e : fl (nbr x) = 12 := by
    unfold fl
    rw [if_neg hn, if_pos hb]
  rw [e, f1_m h (by decide)]; exact q)
theorem of_newO {i : Nat} (hk : kd = 10 ∨ kd = 11 ∨ kd = 12) (h : fw x = 0) (hn : nbr x = nI i) (hi : i < 17) (q : Q 0 σ) : wX2_of σ (nI kd) x y z lx ly Q := of_new hk (by
  have e : fl (nbr x) = 0 := by
    unfold fl
    rw [hn, if_neg (nn0 i rfl (by omega)), if_neg (ngt16 hi)]
  rw [e, f1_l h rfl]; exact q)
end OF3
theorem fp_ok {i l : Nat} (h : i < l) (hl : l < 1000) : fp (nI i) (nI l) = 0 := by
  unfold fp
  rw [if_neg (nn0 i rfl (by omega)), if_pos (ltN i l rfl rfl h (by omega))]
theorem fp_no {y : Int32} {l : Nat} (h : ¬ ∃ i, i < l ∧ y = nI i) (hl : l < 1000) : fp y (nI l) = 2 := by
  unfold fp
  rcases casesN y (n := l) (by omega) with g | ⟨g1, g2⟩ | g
  · rw [if_pos g]
  · rw [if_neg g1, if_neg g2]
  · exact absurd g h
section MP
variable {μ : Sg} {K : Sg → Prop} {fl th k i L : Nat} {a tx nx : Int32}
theorem m_rowW (h : sI μ 0 44 = nI fl) (hf : fl ≤ 20) {kd : Int32} (h0 : ¬ sI μ 0 39 = 0) (q : K (mFail μ fl (ft (sI μ 0 39)) (ft (sI μ 0 39)) a)) : wX11_makeRow μ a kd K := by
  unfold wX11_makeRow
  exact m_isWhole h hf (fun g => absurd g h0) (fun _ => gT rfl q)
theorem m_rowS (h : sI μ 0 44 = nI fl) (hf : fl ≤ 20) {kd : Int32} (h0 : sI μ 0 39 = 0) (hn : sI μ 0 40 < 0) (q : K (mFail μ fl 3 3 a)) : wX11_makeRow μ a kd K := by
  unfold wX11_makeRow
  exact m_isWhole h hf (fun _ => gF ne10 (gT hn (m_failBy h hf q))) (fun g => absurd h0 g)
theorem m_rowL (h : sI μ 0 44 = nI fl) (hf : fl ≤ 20) {kd : Int32} (h0 : sI μ 0 39 = 0) (hn : ¬ sI μ 0 40 < 0) (hb : 16 < sI μ 0 40) (q : K (mGo μ 3 12 0 a)) : wX11_makeRow μ a kd K := by
  unfold wX11_makeRow
  exact m_isWhole h hf (fun _ => gF ne10 (gF hn (gT hb (m_finish q)))) (fun g => absurd h0 g)
theorem m_rp_y (h : sI μ 0 44 = nI fl) (hf : fl ≤ 20) (h0 : ¬ sI μ 0 39 = 0) (q : K (mFail μ fl (ft (sI μ 0 39)) (ft (sI μ 0 39)) a)) : wX11_readPlace μ a tx nx K := by
  unfold wX11_readPlace
  exact m_isWhole h hf (fun g => absurd g h0) (fun _ => gT rfl q)
theorem m_rp_x (h : sI μ 0 44 = nI fl) (hf : fl ≤ 20) (h0 : sI μ 0 39 = 0) (hr : ¬ isRw tx) (q : K (mFail μ fl (ff tx) (ff tx) a)) : wX11_readPlace μ a tx nx K := by
  unfold wX11_readPlace
  exact m_isWhole h hf (fun _ => gF ne10 (m_isRowHere h hf (fun g => absurd g hr) (fun _ => gT rfl q))) (fun g => absurd h0 g)
theorem m_rp_i (h : sI μ 0 44 = nI fl) (hf : fl ≤ 20) (h0 : sI μ 0 39 = 0) (hr : isRw tx) (hx : nx = nI k) (hk : k < 220) (hL : sI μ 5 k = nI L) (hL2 : L ≤ 16) (hi : ¬ ∃ i, i < L ∧ sI μ 0 40 = nI i) (q : K (mFail μ fl 2 2 a)) : wX11_readPlace μ a tx nx K := by
  unfold wX11_readPlace
  refine m_isWhole h hf (fun _ => gF ne10 (m_isRowHere h hf (fun _ => gF ne10 ⟨by rw [hx]; exact vp_in_nI hk (by decide), ?_⟩) (fun g => absurd hr g))) (fun g => absurd h0 g)
  rw [hx, nI_clamp (by omega), hL]
  exact m_in (fun g1 g2 => absurd ((in_sub (by omega)).mp ⟨g1, g2⟩) hi) (fun _ => gT rfl (m_failBy h hf q))
theorem m_rp (h : sI μ 0 44 = nI fl) (hf : fl ≤ 20) (h0 : sI μ 0 39 = 0) (hr : isRw tx) (hx : nx = nI k) (hk : k < 220) (hL : sI μ 5 k = nI L) (hL2 : L ≤ 16) (hi : i < L) (hi2 : sI μ 0 40 = nI i) (q : K (mVal μ (sI μ 6 (16 * k + i)) (sI μ 7 (16 * k + i)))) : wX11_readPlace μ a tx nx K := by
  unfold wX11_readPlace
  refine m_isWhole h hf (fun _ => gF ne10 (m_isRowHere h hf (fun _ => gF ne10 ⟨by rw [hx]; exact vp_in_nI hk (by decide), ?_⟩) (fun g => absurd hr g))) (fun g => absurd h0 g)
  rw [hx, nI_clamp (by omega), hL, hi2]
  have e : ((16 : Int32) * nI k) + nI i = nI (16 * k + i) := addN (16 * k) i (mulN 16 k rfl rfl) rfl
  have hp : (¬ nI i < 0 ∧ ¬ (nI L - 1) < nI i) := (in_sub (by omega)).mpr ⟨i, hi, rfl⟩
  refine m_in (fun g1 g2 => gF ne10 ?_) (fun g => ?_)
  · rw [hi2, e, nI_clamp (by omega)]
    exact ⟨vp_in_nI (by omega) (by decide), vp_in_nI (by omega) (by decide), q⟩
  · rcases g with g | g
    · exact absurd g hp.1
    · exact absurd g hp.2
end MP
