section CA
variable {σ μ : Sg} {x y : Int32} {Q : Int32 → Sg → Prop}
theorem REL.thr {v : Int32} (h : REL σ μ) : REL σ (wI μ 0 55 v) := by
  obtain ⟨so, dl, ln, th, us, lm, na, tl, rn, t1, t2, t3, t4, t5, t6, t7, hRA, t8, t9, t10, t11, t12, k1, k2, k3, k4, k5, n1, n2, n3⟩ := h
  exact ⟨so, dl, ln, th, us, lm, na, tl, rn, t1, t2, t3, t4, t5, t6, t7, hRA, t8, t9, t10, t11, t12, k1, k2, k3, k4, k5, n1, n2, n3⟩
theorem told_ok (h : REL σ μ) (q : ∀ r σ', (∀ K : Int32 → Sg → Prop, (∀ μ', REL σ' μ' → K r μ') → wX11_told μ x y K) → Q r σ') : wX10_told σ x y Q := by
  have h0 := h.thr (v := 0)
  obtain ⟨so, dl, ln, th, us, lm, na, tl, rn, t1, t2, t3, t4, t5, t6, t7, hRA, -⟩ := h
  have hna := hRA.2.2.1
  unfold wX10_told wX10_told_23
  rcases casesN x (n := na) (by omega) with hx | ⟨hx1, hx2⟩ | ⟨a, ha, hx⟩
  · refine c_hasNot hRA.1 (Or.inl hx) (gT rfl (q _ _ (fun K hK => ?_)))
    unfold wX11_told
    exact m_noAct (μ := wI μ 0 55 0) hRA.2.1 hna (fun b hb hx' => absurd hx (by rw [hx']; exact nn0 b rfl (by omega))) (fun _ => gF ne10 (hK _ h0))
  · refine c_hasNot hRA.1 (Or.inr ⟨hx1, hx2⟩) (gT rfl (q _ _ (fun K hK => ?_)))
    unfold wX11_told
    exact m_noAct (μ := wI μ 0 55 0) hRA.2.1 hna (fun b hb hx' => absurd (by rw [hx']; exact ltN b na rfl rfl hb (by omega)) hx2) (fun _ => gF ne10 (hK _ h0))
  subst hx
  refine c_has hRA.1 hna ha (gF ne10 ?_)
  have na0 : ∀ {K : Int32 → Sg → Prop}, K 0 (wI μ 0 55 0) → wX11_noAct (wI μ 0 55 0) (nI a) K := fun {K} hK => m_noAct (μ := wI μ 0 55 0) hRA.2.1 hna (fun _ _ _ => hK) (fun g => absurd ⟨a, ha, rfl⟩ g)
  obtain ⟨k, hk32, hk1, r0, r1, r2, r3, -⟩ := hRA.2.2.2 a ha
  have hv : vp_in (nI a) 60 := vp_in_nI (by omega) (by decide)
  have ea : (nI a).toNatClampNeg = a := nI_clamp (by omega)
  have out : ¬ y = 0 → ¬ y = 1 → ¬ y = 2 → ¬ y = 3 → ∀ K : Int32 → Sg → Prop, (∀ μ', REL σ μ' → K (-102) μ') → wX11_told μ (nI a) y K := by
    intro n0 n1 n2 n3 K hK
    unfold wX11_told
    exact na0 (gT rfl (gS n0 (gS n1 (gS n2 (gS n3 (fun _ _ _ _ => hK _ h0))))))
  rcases casesN y (n := 4) (by omega) with hy | ⟨hy1, hy2⟩ | ⟨w, hw, hy⟩
  · refine gT hy (q _ _ (out ?_ ?_ ?_ ?_)) <;> intro e <;> rw [e] at hy <;> exact absurd hy (by decide)
  · have h3 : (3 : Int32) < y := by
      rw [Int32.lt_iff_toInt_lt] at hy2 ⊢
      have e1 : (nI 4).toInt = 4 := by decide
      have e2 : (3 : Int32).toInt = 3 := by decide
      omega
    refine gF hy1 (gT h3 (q _ _ (out ?_ ?_ ?_ ?_))) <;> intro e <;> rw [e] at h3 <;> exact absurd h3 (by decide)
  · subst hy
    refine gF (nn0 w rfl (by omega)) (gF (nltN 3 w rfl rfl (by omega) (by omega)) (c_given hRA.1 hna ha (w := w) rfl hw (q _ _ (fun K hK => ?_))))
    unfold wX11_told
    rw [ea]
    refine na0 (gT rfl ?_)
    rcases (show w = 0 ∨ w = 1 ∨ w = 2 ∨ w = 3 by omega) with rfl | rfl | rfl | rfl
    · refine ⟨fun _ => ⟨hv, ?_⟩, gS (by decide) (gS (by decide) (gS (by decide) (fun h => absurd rfl h)))⟩
      have := hK _ h0
      rw [Nat.add_zero, r0, ← hk1] at this
      exact this
    · refine gS (by decide) ⟨fun _ => ⟨hv, ?_⟩, gS (by decide) (gS (by decide) (fun _ h => absurd rfl h))⟩
      have := hK _ h0
      rw [r1] at this
      exact this
    · refine gS (by decide) (gS (by decide) ⟨fun _ => ⟨hv, ?_⟩, gS (by decide) (fun _ _ h => absurd rfl h)⟩)
      have := hK _ h0
      rw [r2] at this
      exact this
    · refine gS (by decide) (gS (by decide) (gS (by decide) ⟨fun _ => ⟨hv, ?_⟩, (fun _ _ _ h => absurd rfl h)⟩))
      have := hK _ h0
      rw [r3] at this
      exact this
theorem ended_ok (h : REL σ μ) (q : ∀ r σ', (∀ K : Int32 → Sg → Prop, (∀ μ', REL σ' μ' → K r μ') → wX11_ended μ x K) → Q r σ') : wX10_ended σ x Q := by
  have h0 := h.thr (v := 0)
  obtain ⟨so, dl, ln, th, us, lm, na, tl, rn, t1, t2, t3, t4, t5, t6, t7, hRA, t8, t9, t10, t11, t12, k1, k2, k3, k4, k5, n1, n2, n3⟩ := h
  unfold wX10_ended
  refine ⟨fun e => q _ _ (fun K hK => ?_), fun e => q _ _ (fun K hK => ?_), fun e => q _ _ (fun K hK => ?_), fun e => q _ _ (fun K hK => ?_), fun e => q _ _ (fun K hK => ?_), fun e0 e1 e2 e3 e4 => q _ _ (fun K hK => ?_)⟩
  · subst e
    unfold wX11_ended
    refine ⟨fun _ => ?_, gS (by decide) (gS (by decide) (gS (by decide) (gS (by decide) (fun h => absurd rfl h))))⟩
    rw [← k1]; exact hK _ h0
  · subst e
    unfold wX11_ended
    refine gS (by decide) ⟨fun _ => ?_, gS (by decide) (gS (by decide) (gS (by decide) (fun _ h => absurd rfl h)))⟩
    rw [← k2]; exact hK _ h0
  · subst e
    unfold wX11_ended
    refine gS (by decide) (gS (by decide) ⟨fun _ => ?_, gS (by decide) (gS (by decide) (fun _ _ h => absurd rfl h))⟩)
    rw [← k3]; exact hK _ h0
  · subst e
    unfold wX11_ended
    refine gS (by decide) (gS (by decide) (gS (by decide) ⟨fun _ => ?_, gS (by decide) (fun _ _ _ h => absurd rfl h)⟩))
    rw [← k4]; exact hK _ h0
  · subst e
    unfold wX11_ended
    refine gS (by decide) (gS (by decide) (gS (by decide) (gS (by decide) ⟨fun _ => ?_, (fun _ _ _ _ h => absurd rfl h)⟩)))
    rw [← k5]; exact hK _ h0
  · unfold wX11_ended
    exact gS e0 (gS e1 (gS e2 (gS e3 (gS e4 (fun _ _ _ _ _ => hK _ h0)))))
/-- the number of a value, or how many places it has -/
theorem meas {so dl ln : Nat → Nat} {th us lm : Nat} {v : Int64} {t n : Int32} (hT : Th so dl ln th us lm (sI μ 5) (sL σ 7)) (hu : sI σ 6 3 = nI us) (hu2 : us ≤ 1708) (hth : th ≤ 200) (hV : V so dl th v t n) : ∃ r : Int32, (∀ Q : Int32 → Sg → Prop, Q r σ → wX7_measure σ v Q) ∧ (∀ (μ' : Sg) (K : Int32 → Sg → Prop), (∀ j, sI μ' 5 j = sI μ 5 j) → K r μ' → wX11_numberOf μ' t n K) := by
  have hs := hV.srt
  by_cases t0 : t = 0
  · refine ⟨n, fun Q q => ?_, fun μ' K _ k => ?_⟩
    · unfold wX7_measure
      refine c_sort (gT (by rw [hs]; exact t0) (c_number ?_))
      rw [hV.num t0]; exact q
    · unfold wX11_numberOf
      exact gT t0 k
  · by_cases hr : isRw t
    · obtain ⟨k0, a1, a2, a3, a4, a5, a6⟩ := hV.row hr
      obtain ⟨-, -, h3, -, -⟩ := hT.1 k0 a1
      obtain ⟨b1, b2, b3, b4, b5⟩ := h3 a3
      refine ⟨nI (ln k0), fun Q q => ?_, fun μ' K he k => ?_⟩
      · unfold wX7_measure
        refine c_sort (gF (by rw [hs]; exact t0) (c_lengthOf hu hu2 (by rw [hs]; exact hr) a6 (by omega) ?_))
        rw [b5, nbr_pk]; exact q
      · unfold wX11_numberOf
        refine gF t0 (m_isRow (fun _ => gF ne10 ?_) (fun g => absurd hr g))
        rw [a5, nI_clamp (by omega), he, b1]
        exact ⟨vp_in_nI (by omega) (by decide), k⟩
    · refine ⟨0, fun Q q => ?_, fun μ' K _ k => ?_⟩
      · unfold wX7_measure
        exact c_sort (gF (by rw [hs]; exact t0) (c_lengthNo (by rw [hs]; exact hr) q))
      · unfold wX11_numberOf
        exact gF t0 (m_isRow (fun g => absurd g hr) (fun _ => gT rfl k))
theorem gave_ok (h : REL σ μ) (q : ∀ r σ', (∀ K : Int32 → Sg → Prop, (∀ μ', REL σ' μ' → K r μ') → wX11_gave μ K) → Q r σ') : wX10_gave σ Q := by
  have h0 := h.thr (v := 0)
  obtain ⟨so, dl, ln, th, us, lm, na, tl, rn, t1, t2, t3, t4, t5, t6, t7, hRA, t8, t9, t10, t11, t12, -⟩ := h
  obtain ⟨r, hc, hm⟩ := meas t1 t3 t4 t7 t12
  unfold wX10_gave
  refine hc _ (q _ _ (fun K hK => ?_))
  unfold wX11_gave
  exact hm (wI μ 0 55 0) _ (fun _ => rfl) (hK _ h0)
theorem m_box8 {b : Nat} {K : Int32 → Sg → Prop} {ν : Sg} (hb : b < 8) (k : K 1 ν) : wX11_in ν (nI b) 0 7 K := m_in (fun _ _ => k) (fun g => by
  rcases g with g | g
  · exact absurd g (nn0 b rfl (by omega))
  · exact absurd g (nltN 7 b rfl rfl (by omega) (by omega)))
theorem m_boxNo {K : Int32 → Sg → Prop} {ν : Sg} (hx : x < 0 ∨ (¬ x < 0 ∧ ¬ x < nI 8)) (k : K 0 ν) : wX11_in ν x 0 7 K := m_in (fun g1 g2 => by
  rcases hx with hx | ⟨-, hx⟩
  · exact absurd hx g1
  · exfalso
    rw [Int32.lt_iff_toInt_lt] at hx g2
    have e1 : (nI 8).toInt = 8 := by decide
    have e2 : (7 : Int32).toInt = 7 := by decide
    omega) (fun _ => k)
theorem c_boxNo (hx : x < 0 ∨ (¬ x < 0 ∧ ¬ x < nI 8)) (k : Q 0 σ) : wX7_isBox σ x Q := by
  unfold wX7_isBox
  rcases hx with hx | ⟨h1, h2⟩
  · exact gT hx k
  · exact gF h1 (gF h2 k)
theorem c_box8 {b : Nat} (hb : b < 8) (k : Q 1 σ) : wX7_isBox σ (nI b) Q := by
  unfold wX7_isBox
  exact gF (nn0 b rfl (by omega)) (gT (ltN b 8 rfl rfl hb (by omega)) k)
theorem boxV {so dl ln : Nat → Nat} {th b : Nat} (h : Mm so dl ln th (sL σ 7) (mT μ) (mN μ)) (hb : b < 8) : V so dl th (sL σ 7 b) (sI μ 15 b) (sI μ 16 b) := by
  have := (h b (Or.inl hb)).1
  unfold cad mT mN at this
  rw [if_pos hb, if_pos hb, if_pos hb] at this
  exact this
theorem box_cases (x : Int32) : (x < 0 ∨ (¬ x < 0 ∧ ¬ x < nI 8)) ∨ ∃ b : Nat, b < 8 ∧ x = nI b := by
  rcases casesN x (n := 8) (by omega) with h | h | h
  · exact Or.inl (Or.inl h)
  · exact Or.inl (Or.inr h)
  · exact Or.inr h
theorem box_ok (h : REL σ μ) (q : ∀ r σ', (∀ K : Int32 → Sg → Prop, (∀ μ', REL σ' μ' → K r μ') → wX11_box μ x K) → Q r σ') : wX10_box σ x Q := by
  have h0 := h.thr (v := 0)
  obtain ⟨so, dl, ln, th, us, lm, na, tl, rn, t1, t2, t3, t4, t5, t6, t7, hRA, -⟩ := h
  unfold wX10_box
  rcases box_cases x with hx | ⟨b, hb, rfl⟩
  · refine c_boxNo hx (gT rfl (q _ _ (fun K hK => ?_)))
    unfold wX11_box
    exact m_boxNo hx (gT rfl (hK _ h0))
  · refine c_box8 hb (gF ne10 (c_read rfl t3 t4 (by omega) (c_sort (q _ _ (fun K hK => ?_)))))
    unfold wX11_box
    rw [nI_clamp (by omega)]
    refine m_box8 hb (gF ne10 ⟨vp_in_nI hb (by decide), ?_⟩)
    have := hK _ h0
    rw [(boxV t2 hb).srt] at this
    exact this
theorem boxed_ok (h : REL σ μ) (q : ∀ r σ', (∀ K : Int32 → Sg → Prop, (∀ μ', REL σ' μ' → K r μ') → wX11_boxed μ x K) → Q r σ') : wX10_boxed σ x Q := by
  have h0 := h.thr (v := 0)
  obtain ⟨so, dl, ln, th, us, lm, na, tl, rn, t1, t2, t3, t4, t5, t6, t7, hRA, -⟩ := h
  unfold wX10_boxed
  rcases box_cases x with hx | ⟨b, hb, rfl⟩
  · refine c_boxNo hx (gT rfl (q _ _ (fun K hK => ?_)))
    unfold wX11_boxed
    exact m_boxNo hx (gT rfl (hK _ h0))
  · obtain ⟨r, hc, hm⟩ := meas t1 t3 t4 t7 (boxV t2 hb)
    refine c_box8 hb (gF ne10 (c_read rfl t3 t4 (by omega) (hc _ (q _ _ (fun K hK => ?_)))))
    unfold wX11_boxed
    rw [nI_clamp (by omega)]
    exact m_box8 hb (gF ne10 ⟨vp_in_nI hb (by decide), vp_in_nI hb (by decide), hm (wI μ 0 55 0) _ (fun _ => rfl) (hK _ h0)⟩)
theorem same_ok (h : REL σ μ) (q : ∀ r σ', (∀ K : Int32 → Sg → Prop, (∀ μ', REL σ' μ' → K r μ') → wX11_same μ x y K) → Q r σ') : wX10_same σ x y Q := by
  have h0 := h.thr (v := 0)
  obtain ⟨so, dl, ln, th, us, lm, na, tl, rn, t1, t2, t3, t4, t5, t6, t7, hRA, -⟩ := h
  unfold wX10_same
  rcases box_cases x with hx | ⟨b, hb, rfl⟩
  · refine c_boxNo hx (gT rfl (q _ _ (fun K hK => ?_)))
    unfold wX11_same
    exact m_boxNo hx (gT rfl (hK _ h0))
  rcases box_cases y with hy | ⟨c, hc, rfl⟩
  · refine c_box8 hb (gF ne10 (c_boxNo hy (gT rfl (q _ _ (fun K hK => ?_)))))
    unfold wX11_same
    exact m_box8 hb (gF ne10 (m_boxNo hy (gT rfl (hK _ h0))))
  have hdl : ∀ k, k < th → dl k < 10000 := by
    intro k hk
    obtain ⟨h1, h2, h3, h4, h5⟩ := t1.1 k hk
    rcases Nat.lt_or_ge 4 (so k) with g | g
    · rcases Nat.lt_or_ge 6 (so k) with g2 | g2
      · have := h5 (by omega)
        omega
      · have := h4 (by omega) g2
        omega
    · have := h3 g
      omega
  have ec := V.eq t1.inj hdl (by omega) (boxV t2 hb) (boxV t2 hc)
  have hvb : vp_in (nI b) 8 := vp_in_nI hb (by decide)
  have hvc : vp_in (nI c) 8 := vp_in_nI hc (by decide)
  refine c_box8 hb (gF ne10 (c_box8 hc (gF ne10 (c_read rfl t3 t4 (by omega) (c_read rfl t3 t4 (by omega) ?_)))))
  refine ⟨fun g => q _ _ (fun K hK => ?_), fun g => q _ _ (fun K hK => ?_)⟩
  · have e := ec.mp (cmp0.mp g)
    unfold wX11_same wX11_same_68
    rw [nI_clamp (by omega), nI_clamp (by omega)]
    refine m_box8 hb (gF ne10 (m_box8 hc (gF ne10 ⟨hvb, hvc, gT e.1 ⟨hvb, fun _ => hK _ h0, fun g1 => ⟨hvb, hvc, gT ?_ (hK _ h0)⟩⟩⟩)))
    rcases e.2 with e2 | e2
    · exact absurd e2 g1
    · exact e2
  · have e : ¬ (sI μ 15 b = sI μ 15 c ∧ (sI μ 15 b = 1 ∨ sI μ 16 b = sI μ 16 c)) := fun h => g (cmp0.mpr (ec.mpr h))
    unfold wX11_same wX11_same_68
    rw [nI_clamp (by omega), nI_clamp (by omega)]
    refine m_box8 hb (gF ne10 (m_box8 hc (gF ne10 ⟨hvb, hvc, fun g0 => ⟨hvb, fun g1 => absurd ⟨g0, Or.inl g1⟩ e, fun g1 => ⟨hvb, hvc, fun g2 => absurd ⟨g0, Or.inr g2⟩ e, fun _ => hK _ h0⟩⟩, fun _ => hK _ h0⟩)))
theorem out_ok (h : REL σ μ) (q : ∀ r σ', (∀ K : Int32 → Sg → Prop, (∀ μ', REL σ' μ' → K r μ') → wX11_out μ x K) → Q r σ') : wX10_out σ x Q := by
  have h0 := h.thr (v := 0)
  obtain ⟨so, dl, ln, th, us, lm, na, tl, rn, t1, t2, t3, t4, t5, t6, t7, hRA, t8, t9, t10, t11, t12, -⟩ := h
  unfold wX10_out wX10_out_15
  rw [t9]
  have no : (¬ ∃ j, j < tl ∧ x = nI j) → ∀ K : Int32 → Sg → Prop, (∀ μ', REL σ μ' → K (-102) μ') → wX11_out μ x K := by
    intro hn K hK
    unfold wX11_out
    rw [t10]
    exact m_in (fun g1 g2 => absurd ((in_sub (by omega)).mp ⟨g1, g2⟩) hn) (fun _ => gT rfl (hK _ h0))
  rcases casesN x (n := tl) (by omega) with hx | ⟨hx1, hx2⟩ | ⟨j, hj, rfl⟩
  · exact gT hx (q _ _ (no (fun ⟨j, hj, e⟩ => absurd hx (by rw [e]; exact nn0 j rfl (by omega)))))
  · exact gF hx1 (gF hx2 (q _ _ (no (fun ⟨j, hj, e⟩ => absurd (by rw [e]; exact ltN j tl rfl rfl hj (by omega)) hx2))))
  · refine gF (nn0 j rfl (by omega)) (gT (ltN j tl rfl rfl hj (by omega)) ⟨vp_in_nI (by omega) (by decide), ?_⟩)
    rw [nI_clamp (by omega)]
    refine q _ _ (fun K hK => ?_)
    unfold wX11_out
    rw [t10, nI_clamp (by omega)]
    have hp : (¬ nI j < 0 ∧ ¬ (nI tl - 1) < nI j) := (in_sub (by omega)).mpr ⟨j, hj, rfl⟩
    refine m_in (fun _ _ => gF ne10 ⟨vp_in_nI (by omega) (by decide), ?_⟩) (fun g => ?_)
    · have := hK _ h0
      rw [t8 j hj] at this
      exact this
    · rcases g with g | g
      · exact absurd g hp.1
      · exact absurd g hp.2
theorem count_ok (h : REL σ μ) (q : ∀ r σ', (∀ K : Int32 → Sg → Prop, (∀ μ', REL σ' μ' → K r μ') → wX11_count μ x K) → Q r σ') : wX10_count σ x Q := by
  have h0 := h.thr (v := 0)
  obtain ⟨so, dl, ln, th, us, lm, na, tl, rn, t1, t2, t3, t4, t5, t6, t7, hRA, t8, t9, t10, t11, t12, k1, k2, k3, k4, k5, n1, n2, n3⟩ := h
  unfold wX10_count
  refine ⟨fun e => q _ _ (fun K hK => ?_), fun e => q _ _ (fun K hK => ?_), fun e => q _ _ (fun K hK => ?_), fun e0 e1 e2 => q _ _ (fun K hK => ?_)⟩
  · subst e
    unfold wX11_count
    refine gT rfl ?_
    have := hK _ h0
    rw [hRA.1, ← hRA.2.1] at this
    exact this
  · subst e
    unfold wX11_count
    refine gF ne10 (gT rfl ?_)
    have := hK _ h0
    rw [t9, ← t10] at this
    exact this
  · subst e
    unfold wX11_count
    refine gF (by decide) (gF (by decide) (gT rfl ?_))
    have := hK _ h0
    rw [n1, ← n2] at this
    exact this
  · unfold wX11_count
    exact gF e0 (gF e1 (gF e2 (hK _ h0)))
theorem clear_ok (h : REL σ μ) (q : ∀ r σ', (∀ K : Int32 → Sg → Prop, (∀ μ', REL σ' μ' → K r μ') → wX11_clear μ K) → Q r σ') : wX10_clear σ Q := by
  obtain ⟨so, dl, ln, th, us, lm, na, tl, rn, t1, t2, t3, t4, t5, t6, t7, hRA, t8, t9, t10, t11, t12, k1, k2, k3, k4, k5, n1, n2, n3⟩ := h
  unfold wX10_clear
  refine c_restart (q _ _ (fun K hK => ?_))
  unfold wX11_clear
  refine ⟨9, m_cboxes (μ := wI (wI (wI μ 0 55 0) 0 0 0) 0 24 0) ?_ 8 0 (by omega)⟩
  rw [hRA.2.1, ← hRA.1]
  refine hK _ ?_
  have m0 : ∀ o j, o ≠ 15 → o ≠ 16 → sI (mBx (wI (wI (wI μ 0 55 0) 0 0 0) 0 24 0) 8) o j = sI (wI (wI (wI μ 0 55 0) 0 0 0) 0 24 0) o j := fun o j h1 h2 => by rw [mBx_I, if_neg (by omega), if_neg (by omega)]
  refine ⟨fun _ => 0, fun _ => 0, fun _ => 0, 0, 8, 0, 0, 0, rn, Th_new _ _ _ _, Mm_new (fun j hj => cRst_L _ _ j hj) (fun j hj => ?_) (fun j hj => ?_), rfl, by omega, by omega, by omega, by omega, ⟨?_, ?_, by omega, fun x hx => absurd hx (by omega)⟩, fun j hj => absurd hj (by omega), rfl, ?_, by omega, ?_, rfl, rfl, rfl, rfl, rfl, ?_, ?_, n3⟩
  · unfold mT
    rw [if_pos hj]
    show sI (mBx (wI (wI (wI μ 0 55 0) 0 0 0) 0 24 0) 8) 15 j = 1
    rw [mBx_I, if_neg (by omega), if_pos ⟨rfl, hj⟩]
  · unfold mN
    rw [if_pos hj]
    show sI (mBx (wI (wI (wI μ 0 55 0) 0 0 0) 0 24 0) 8) 16 j = 0
    rw [mBx_I, if_pos ⟨rfl, hj⟩]
  · rw [cRst_I _ _ _ _ (by omega)]; rfl
  · show sI (mBx (wI (wI (wI μ 0 55 0) 0 0 0) 0 24 0) 8) 0 0 = _
    rw [m0 _ _ (by decide) (by decide)]; rfl
  · show sI (mBx (wI (wI (wI μ 0 55 0) 0 0 0) 0 24 0) 8) 0 24 = _
    rw [m0 _ _ (by decide) (by decide)]; rfl
  · have e : sL (cRst (wI σ 1 3 0) 0) 10 6 = pk 1 0 := pk_none
    rw [e]
    exact V.no
  · rw [cRst_I _ _ _ _ (by omega)]; exact n1
  · show sI (mBx (wI (wI (wI μ 0 55 0) 0 0 0) 0 24 0) 8) 0 5 = _
    rw [m0 _ _ (by decide) (by decide)]; exact n2
end CA
