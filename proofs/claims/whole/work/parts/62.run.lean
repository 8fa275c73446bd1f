def cBx (σ : Sg) : Nat → Sg
  | 0 => σ
  | n + 1 => wL (cBx σ n) 7 n (4294967296 : Int64)
theorem cBx_I (σ : Sg) (o j : Nat) : ∀ n, sI (cBx σ n) o j = sI σ o j
  | 0 => rfl
  | n + 1 => by
    show sI (cBx σ n) o j = _
    exact cBx_I σ o j n
theorem cBx_L (σ : Sg) (o j : Nat) : ∀ n, sL (cBx σ n) o j = if o = 7 ∧ j < n then pk 1 0 else sL σ o j
  | 0 => by rw [if_neg (by omega)]; rfl
  | n + 1 => by
    show sL (wL (cBx σ n) 7 n (4294967296 : Int64)) o j = _
    rw [sL_wL, cBx_L σ o j n, pk_none]
    by_cases h : o = 7 ∧ j = n
    · rw [if_pos h, if_pos (by omega)]
    · rw [if_neg h]
      by_cases h2 : o = 7 ∧ j < n
      · rw [if_pos h2, if_pos (by omega)]
      · rw [if_neg h2, if_neg (by omega)]
theorem c_boxes {σ : Sg} {Q : Sg → Prop} (q : Q (wI (wI (cBx σ 8) 6 3 8) 6 4 0)) : ∀ (d i : Nat), i + d = 8 → wX7_restart_2 (d + 1) (cBx σ i) (nI i) Q
  | 0, i, h => by
    obtain rfl : i = 8 := by omega
    unfold wX7_restart_2
    exact gF (by decide) q
  | d + 1, i, h => by
    unfold wX7_restart_2
    rw [nI_clamp (by omega), nI_1]
    exact gT (ltN i 8 rfl rfl (by omega) (by decide)) ⟨vp_in_nI (by omega) (by decide), c_boxes q d (i + 1) (by omega)⟩
def cRst (σ : Sg) (l : Int32) : Sg := wI (wI (wI (wI (wI (wI (cGo (wL (wI (wI (wI (wI (wI (cBx σ 8) 6 3 8) 6 4 0) 10 0 l) 10 1 0) 10 2 0) 10 6 4294967296) 0 0 (-1)) 5 4 0) 12 1 0) 14 6 0) 21 8 0) 21 9 0) 5 8 0
theorem c_restart {σ : Sg} {l : Int32} {Q : Sg → Prop} (q : Q (cRst σ l)) : wX6_restart σ l Q := by
  unfold wX6_restart wX7_restart
  exact ⟨9, c_boxes q 8 0 (by omega)⟩
theorem cRst_I (σ : Sg) (l : Int32) (o j : Nat) (h0 : o = 0 ∨ (1 ≤ o ∧ o ≤ 4) ∨ o = 11) : sI (cRst σ l) o j = sI σ o j := by
  unfold cRst cGo
  rw [i_o (by omega), i_o (by omega), i_o (by omega), i_o (by omega), i_o (by omega), i_o (by omega), i_o (by omega), i_o (by omega), i_o (by omega)]
  show sI (wI (wI (wI (wI (wI (cBx σ 8) 6 3 8) 6 4 0) 10 0 l) 10 1 0) 10 2 0) o j = _
  rw [i_o (by omega), i_o (by omega), i_o (by omega), i_o (by omega), i_o (by omega), cBx_I]
theorem cRst_L (σ : Sg) (l : Int32) (j : Nat) (h : j < 8) : sL (cRst σ l) 7 j = pk 1 0 := by
  show sL (cBx σ 8) 7 j = _
  rw [cBx_L, if_pos ⟨rfl, h⟩]
/-- the boxes of the model are emptied -/
def mBx (μ : Sg) : Nat → Sg
  | 0 => μ
  | n + 1 => wI (wI (mBx μ n) 15 n 1) 16 n 0
theorem mBx_I (μ : Sg) (o j : Nat) : ∀ n, sI (mBx μ n) o j = if o = 16 ∧ j < n then 0 else if o = 15 ∧ j < n then 1 else sI μ o j
  | 0 => by rw [if_neg (by omega), if_neg (by omega)]; rfl
  | n + 1 => by
    show sI (wI (wI (mBx μ n) 15 n 1) 16 n 0) o j = _
    rw [sI_wI, sI_wI, mBx_I μ o j n]
    by_cases h : o = 16 ∧ j = n
    · rw [if_pos h, if_pos (by omega)]
    · rw [if_neg h]
      by_cases h2 : o = 15 ∧ j = n
      · rw [if_pos h2, if_neg (by omega), if_pos (by omega)]
      · rw [if_neg h2]
        by_cases h3 : o = 16 ∧ j < n
        · rw [if_pos h3, if_pos (by omega)]
        · rw [if_neg h3]
          by_cases h4 : o = 15 ∧ j < n
          · rw [if_pos h4, if_neg (by omega), if_pos (by omega)]
          · rw [if_neg h4, if_neg (by omega), if_neg (by omega)]
theorem m_boxes {μ : Sg} {l : Int32} {Q : Int32 → Sg → Prop} (q : wX11_newFrame (mBx μ 8) (fun r4 σ3 => wX11_start σ3 l r4 (fun σ5 => ∃ n, wX11_run_137 n σ5 (1 : Int32) Q))) : ∀ (d i : Nat), i + d = 8 → wX11_run_100 (d + 1) (mBx μ i) l (nI i) Q
  | 0, i, h => by
    obtain rfl : i = 8 := by omega
    unfold wX11_run_100
    exact gF (by decide) q
  | d + 1, i, h => by
    unfold wX11_run_100
    rw [nI_clamp (by omega), nI_1]
    exact gT (ltN i 8 rfl rfl (by omega) (by decide)) ⟨vp_in_nI (by omega) (by decide), vp_in_nI (by omega) (by decide), m_boxes q d (i + 1) (by omega)⟩
theorem m_cboxes {μ : Sg} {l : Int32} {Q : Int32 → Sg → Prop} (q : Q l (wI (wI (wI (wI (wI (wI (wI (mBx μ 8) 0 48 1) 0 49 0) 0 50 0) 0 51 0) 0 52 (-1)) 0 53 0) 0 54 0)) : ∀ (d i : Nat), i + d = 8 → wX11_clear_22 (d + 1) (mBx μ i) l (nI i) Q
  | 0, i, h => by
    obtain rfl : i = 8 := by omega
    unfold wX11_clear_22
    exact gF (by decide) q
  | d + 1, i, h => by
    unfold wX11_clear_22
    rw [nI_clamp (by omega), nI_1]
    exact gT (ltN i 8 rfl rfl (by omega) (by decide)) ⟨vp_in_nI (by omega) (by decide), vp_in_nI (by omega) (by decide), m_cboxes q d (i + 1) (by omega)⟩
/-- nothing but empty boxes -/
theorem Th_new (us lm : Nat) (sz : Nat → Int32) (cells : Nat → Int64) : Th (fun _ => 0) (fun _ => 0) (fun _ => 0) 0 us lm sz cells := ⟨fun _ h => absurd h (by omega), fun _ _ _ h => absurd h (by omega), fun _ _ _ h => absurd h (by omega)⟩
theorem Mm_new {cells : Nat → Int64} {mt mn : Nat → Int32} (hc : ∀ j, j < 8 → cells j = pk 1 0) (ht : ∀ j, j < 8 → mt j = 1) (hn : ∀ j, j < 8 → mn j = 0) : Mm (fun _ => 0) (fun _ => 0) (fun _ => 0) 0 cells mt mn := by
  intro w hw
  have h8 : w < 8 := by
    rcases hw with h | ⟨-, h, -⟩
    · exact h
    · omega
  have e : cad (fun _ => 0) (fun _ => 0) w = w := if_pos h8
  rw [e, hc w h8, ht w h8, hn w h8]
  exact ⟨V.no, fun h => absurd h (by omega)⟩
def mRst (μ : Sg) (rn : Nat) (l : Int32) : Sg := wI (wI (wI (wI (wI (wI (wI (wI (wI (wI (wI μ 0 55 0) 0 5 (nI (rn + 1))) 0 6 0) 0 15 0) 0 20 0) 0 24 0) 0 26 0) 0 44 0) 0 45 0) 0 46 l) 0 47 0
theorem run_ok {σ μ : Sg} {x y : Int32} {Q : Int32 → Sg → Prop} (h : REL σ μ) (q : ∀ r σ', (∀ K : Int32 → Sg → Prop, (∀ μ', REL σ' μ' → K r μ') → wX11_run μ x y K) → Q r σ') : wX10_run σ x y Q := by
  have h0 := h
  obtain ⟨so, dl, ln, th, us, lm, na, tl, rn, t1, t2, t3, t4, t5, t6, t7, hRA, t8, t9, t10, t11, t12, k1, k2, k3, k4, k5, n1, n2, n3⟩ := h
  have h55 : REL σ (wI μ 0 55 0) := ⟨so, dl, ln, th, us, lm, na, tl, rn, t1, t2, t3, t4, t5, t6, t7, hRA, t8, t9, t10, t11, t12, k1, k2, k3, k4, k5, n1, n2, n3⟩
  unfold wX10_run
  rcases casesN x (n := na) (by have := hRA.2.2.1; omega) with hx | ⟨hx1, hx2⟩ | ⟨a, ha, hx⟩
  · refine c_hasNot hRA.1 (Or.inl hx) (gT rfl (q _ _ (fun K hK => ?_)))
    unfold wX11_run
    exact m_noAct (μ := wI μ 0 55 0) hRA.2.1 hRA.2.2.1 (fun b hb hx' => absurd hx (by rw [hx']; exact nn0 b rfl (by have := hRA.2.2.1; omega))) (fun _ => gF ne10 (hK _ h55))
  · refine c_hasNot hRA.1 (Or.inr ⟨hx1, hx2⟩) (gT rfl (q _ _ (fun K hK => ?_)))
    unfold wX11_run
    exact m_noAct (μ := wI μ 0 55 0) hRA.2.1 hRA.2.2.1 (fun b hb hx' => absurd (by rw [hx']; exact ltN b na rfl rfl hb (by have := hRA.2.2.1; omega)) hx2) (fun _ => gF ne10 (hK _ h55))
  have hna := hRA.2.2.1
  subst hx
  refine c_has hRA.1 hna ha (gF ne10 ?_)
  have na0 : ∀ {K : Int32 → Sg → Prop}, K 0 (wI μ 0 55 0) → wX11_noAct (wI μ 0 55 0) (nI a) K := fun {K} hK => m_noAct (μ := wI μ 0 55 0) hRA.2.1 hna (fun _ _ _ => hK) (fun g => absurd ⟨a, ha, rfl⟩ g)
  have out : (y < 1 ∨ 200 < y) → ∀ K : Int32 → Sg → Prop, (∀ μ', REL σ μ' → K (-102) μ') → wX11_run μ (nI a) y K := by
    intro hy K hK
    unfold wX11_run
    refine na0 (gT rfl (m_in (fun g1 g2 => ?_) (fun _ => gT rfl (hK _ h55))))
    rcases hy with hy | hy
    · exact absurd hy g1
    · exact absurd hy g2
  refine ⟨fun hy => q _ _ (out (Or.inl hy)), fun hy1 => ⟨fun hy => q _ _ (out (Or.inr hy)), fun hy2 => ?_⟩⟩
  obtain ⟨lim, hl1, hl2, rfl⟩ : ∃ lim : Nat, 1 ≤ lim ∧ lim ≤ 200 ∧ y = nI lim := by
    rcases casesN y (n := 201) (by omega) with g | ⟨g1, g2⟩ | ⟨l, hl, rfl⟩
    · exfalso
      rw [Int32.lt_iff_toInt_lt] at g hy1
      have e1 : (1 : Int32).toInt = 1 := by decide
      have e0 : (0 : Int32).toInt = 0 := by decide
      omega
    · exfalso
      rw [Int32.lt_iff_toInt_lt] at g2 hy2
      have e1 : (200 : Int32).toInt = 200 := by decide
      have e0 : (nI 201).toInt = 201 := by decide
      omega
    · refine ⟨l, ?_, by omega, rfl⟩
      rcases Nat.eq_zero_or_pos l with g | g
      · subst g
        exact absurd (by decide) hy1
      · exact g
  have inl : ∀ {K : Int32 → Sg → Prop}, K 1 (wI μ 0 55 0) → wX11_in (wI μ 0 55 0) (nI lim) 1 200 K := fun {K} hK => m_in (fun _ _ => hK) (fun g => by
    rcases g with g | g
    · exact absurd g hy1
    · exact absurd g hy2)
  by_cases hrn : rn = 400
  · refine gF (by rw [n1, hrn]; decide) (q _ _ (fun K hK => ?_))
    unfold wX11_run
    refine na0 (gT rfl (inl (gF ne10 (gT ?_ (hK _ h55)))))
    show sI μ 0 5 = 400
    rw [n2, hrn]; rfl
  refine gT (ltN rn 400 n1 rfl (by omega) (by decide)) ?_
  rw [n1, nI_1]
  unfold wX6_perform
  refine c_restart (c_open (m := 0) rfl (by omega) ?_)
  have hB0 : Bs (fun _ => 0) (fun _ => 0) (fun _ => 0) 0 8 0 0 0 0 0 0 na lim (cRst (wI σ 0 2 (nI (rn + 1))) (nI lim)) (mBx (mRst μ rn (nI lim)) 8) := by
    have m0 : ∀ o j, o ≠ 15 → o ≠ 16 → sI (mBx (mRst μ rn (nI lim)) 8) o j = sI (mRst μ rn (nI lim)) o j := fun o j h1 h2 => by rw [mBx_I, if_neg (by omega), if_neg (by omega)]
    refine ⟨Th_new _ _ _ _, Mm_new (fun j hj => cRst_L _ _ j hj) (fun j hj => ?_) (fun j hj => ?_), fun _ h => absurd h (by omega), fun _ h => absurd h (by omega), fun _ h => absurd h (by omega), fun _ h => absurd h (by omega), ⟨rfl, rfl, by rw [m0 _ _ (by decide) (by decide)]; rfl, rfl, by rw [m0 _ _ (by decide) (by decide)]; rfl, rfl, by rw [m0 _ _ (by decide) (by decide)]; rfl⟩, ⟨rfl, by rw [m0 _ _ (by decide) (by decide)]; rfl, rfl, by rw [m0 _ _ (by decide) (by decide)]; rfl, rfl, by rw [m0 _ _ (by decide) (by decide)]; rfl, rfl, by rw [m0 _ _ (by decide) (by decide)]; rfl⟩, ?_, pk_none⟩
    · unfold mT
      rw [if_pos hj, mBx_I, if_neg (by omega), if_pos ⟨rfl, hj⟩]
    · unfold mN
      rw [if_pos hj, mBx_I, if_pos ⟨rfl, hj⟩]
    · rw [m0 _ _ (by decide) (by decide), cRst_I _ _ _ _ (by omega)]
      exact ⟨rfl, rn + 1, by omega, rfl⟩
  have hB1 := hB0.opn
  have cO : ∀ o j, (1 ≤ o ∧ o ≤ 4) ∨ o = 0 → sI (cOpen (cRst (wI σ 0 2 (nI (rn + 1))) (nI lim)) 0) o j = sI (wI σ 0 2 (nI (rn + 1))) o j := by
    intro o j ho
    unfold cOpen
    rw [cSlots_I, i_o (by omega), cRst_I _ _ _ _ (by omega)]
  have mO : ∀ o j, (1 ≤ o ∧ o ≤ 4) ∨ (o = 0 ∧ j ≠ 15) → sI (mFrame (mBx (mRst μ rn (nI lim)) 8) 0) o j = sI (mRst μ rn (nI lim)) o j := by
    intro o j ho
    unfold mFrame
    rw [mFill_I _ _ _ _ _ _ _ (by decide), if_neg (by omega), if_neg (by omega), sI_wI, if_neg (by omega), mBx_I, if_neg (by omega), if_neg (by omega)]
  have mR : ∀ o j, 1 ≤ o → o ≤ 4 → sI (mRst μ rn (nI lim)) o j = sI μ o j := by
    intro o j h1 h2
    unfold mRst
    rw [i_o (by omega), i_o (by omega), i_o (by omega), i_o (by omega), i_o (by omega), i_o (by omega), i_o (by omega), i_o (by omega), i_o (by omega), i_o (by omega), i_o (by omega)]
  have hRA1 : RA na (cOpen (cRst (wI σ 0 2 (nI (rn + 1))) (nI lim)) 0) (mStart (mFrame (mBx (mRst μ rn (nI lim)) 8) 0) (nI a) (nI 0)) := by
    refine hRA.fr (fun o j h1 h2 => ?_) ?_ (fun o j h1 h2 => ?_)
    · rw [cO o j (by omega), i_o (by omega)]
    · show sI (mFrame (mBx (mRst μ rn (nI lim)) 8) 0) 0 0 = _
      rw [mO 0 0 (by omega)]
      rfl
    · unfold mStart
      rw [i_o (by omega), i_o (by omega), i_o (by omega), mO o j (by omega), mR o j h1 h2]
  have c21 : ∀ j, sI (cOpen (cRst (wI σ 0 2 (nI (rn + 1))) (nI lim)) 0) 21 j = sI (cRst (wI σ 0 2 (nI (rn + 1))) (nI lim)) 21 j := by
    intro j
    unfold cOpen
    rw [cSlots_I, i_o (by decide)]
  have c10 : ∀ j, sI (cOpen (cRst (wI σ 0 2 (nI (rn + 1))) (nI lim)) 0) 10 j = sI (cRst (wI σ 0 2 (nI (rn + 1))) (nI lim)) 10 j := by
    intro j
    unfold cOpen
    rw [cSlots_I, i_o (by decide)]
  refine begin_ok (N := 0) (s := 0) (φ := 4 * lim) (μ := mStart (mFrame (mBx (mRst μ rn (nI lim)) 8) 0) (nI a) (nI 0)) (a := a) (f := 0) hB1 hRA1 ?_ ⟨by omega, by omega, by omega, by omega, by omega, by omega, by omega, by omega, by omega, by omega, by omega⟩ (fun i hi => absurd hi (by omega)) ⟨rfl, Nat.le_refl 0⟩ (by omega) ⟨by rw [c21]; rfl, by rw [c21]; rfl, by rw [c10]; rfl, by rw [c10]; rfl, by rw [c10]; rfl⟩ (by omega) ha (by omega) ?_ ?_ rfl rfl rfl (fun σ' μ' hm hr => ?_)
  · rw [c10]; rfl
  · show sI (mFrame (mBx (mRst μ rn (nI lim)) 8) 0) 0 45 = _
    rw [mO 0 45 (by omega)]
    rfl
  · show sI (mFrame (mBx (mRst μ rn (nI lim)) 8) 0) 0 26 = _
    rw [mO 0 26 (by omega)]
    rfl
  refine ⟨_, loop_ok (4 * lim) 0 σ' μ' _ hr (by omega) (fun σ'' μ'' hm2 he => ?_)⟩
  have fin : ∀ K : Int32 → Sg → Prop, (∀ μ', REL σ'' μ' → K (if sI σ'' 10 3 = 0 then srt (sL σ'' 10 6) else (-10 : Int32) - sI σ'' 10 3) μ') → wX11_run μ (nI a) (nI lim) K := by
    intro K hK
    unfold wX11_run
    refine na0 (gT rfl (inl (gF ne10 (gF ?_ ?_))))
    · show ¬ sI μ 0 5 = 400
      exact neN rn 400 n2 rfl hrn (by omega) (by decide)
    · have e5 : sI (wI μ 0 55 0) 0 5 + 1 = nI (rn + 1) := by
        show sI μ 0 5 + 1 = _
        rw [n2, nI_1]
      rw [e5]
      refine ⟨9, m_boxes (μ := mRst μ rn (nI lim)) (m_newFrame (f := 0) ?_ (by omega) ?_) 8 0 (by omega)⟩
      · rw [mBx_I, if_neg (by omega), if_neg (by omega)]
        rfl
      · obtain ⟨k, hk⟩ := hm.tr hm2
        exact ⟨2 + k, hk 2 K (end_ok he hK)⟩
  refine ⟨fun h => ?_, fun h => ?_⟩
  · refine c_sort (q _ _ (fun K hK => fin K (fun μ' hr => ?_)))
    rw [if_pos h]
    exact hK _ hr
  · refine q _ _ (fun K hK => fin K (fun μ' hr => ?_))
    rw [if_neg h]
    exact hK _ hr
