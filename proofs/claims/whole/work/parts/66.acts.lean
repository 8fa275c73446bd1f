theorem inb_nat {x hx : Int32} (h : Nat) (e : hx = nI h) (hh : h < 100) (g : inb x hx) : ∃ z, z ≤ h ∧ x = nI z := by
  subst e
  rcases casesN x (n := h + 1) (by omega) with q | ⟨q1, q2⟩ | ⟨z, hz, q⟩
  · exact absurd q g.1
  · exfalso
    have g2 := g.2
    rw [Int32.lt_iff_toInt_lt] at q2 g2
    have e1 : ∀ z, z < 102 → (nI z).toInt = z := by decide
    rw [e1 _ (by omega)] at q2 g2
    omega
  · exact ⟨z, by omega, q⟩
theorem ps_in {k : Nat} (hk : k < 32) : (1 ≤ nps k → (ps0 k = 0 ∧ (tm k 0 = 1 ∨ tm k 0 = 2)) ∨ (ps0 k = 1 ∧ (tm k 1 = 1 ∨ tm k 1 = 2)) ∨ (ps0 k = 2 ∧ (tm k 2 = 1 ∨ tm k 2 = 2))) ∧ (2 ≤ nps k → (ps1 k = 0 ∧ (tm k 0 = 1 ∨ tm k 0 = 2)) ∨ (ps1 k = 1 ∧ (tm k 1 = 1 ∨ tm k 1 = 2)) ∨ (ps1 k = 2 ∧ (tm k 2 = 1 ∨ tm k 2 = 2))) ∧ (3 ≤ nps k → (ps2 k = 0 ∧ (tm k 0 = 1 ∨ tm k 0 = 2)) ∨ (ps2 k = 1 ∧ (tm k 1 = 1 ∨ tm k 1 = 2)) ∨ (ps2 k = 2 ∧ (tm k 2 = 1 ∨ tm k 2 = 2))) := by
  have a0 : ∀ k, k < 32 → 1 ≤ nps k → (ps0 k = 0 ∧ (tm k 0 = 1 ∨ tm k 0 = 2)) ∨ (ps0 k = 1 ∧ (tm k 1 = 1 ∨ tm k 1 = 2)) ∨ (ps0 k = 2 ∧ (tm k 2 = 1 ∨ tm k 2 = 2)) := by decide
  have a1 : ∀ k, k < 32 → 2 ≤ nps k → (ps1 k = 0 ∧ (tm k 0 = 1 ∨ tm k 0 = 2)) ∨ (ps1 k = 1 ∧ (tm k 1 = 1 ∨ tm k 1 = 2)) ∨ (ps1 k = 2 ∧ (tm k 2 = 1 ∨ tm k 2 = 2)) := by decide
  have a2 : ∀ k, k < 32 → 3 ≤ nps k → (ps2 k = 0 ∧ (tm k 0 = 1 ∨ tm k 0 = 2)) ∨ (ps2 k = 1 ∧ (tm k 1 = 1 ∨ tm k 1 = 2)) ∨ (ps2 k = 2 ∧ (tm k 2 = 1 ∨ tm k 2 = 2)) := by decide
  exact ⟨a0 k hk, a1 k hk, a2 k hk⟩
def cGv (σ : Sg) (na : Nat) (k a b c : Int32) : Sg := wI (wI (wI (wI (wI σ 1 3 (nI (na + 1))) 2 (4 * na) k) 2 (4 * na + 1) a) 2 (4 * na + 2) b) 2 (4 * na + 3) c
theorem RA.add {σ μ ρ' : Sg} {na k : Nat} {a b c : Int32} (hRA : RA na σ μ) (hna : na < 60) (hk : k < 32) (hS : SPr (cGv σ na (nI k) a b c) na k ρ') (nu : ¬ (UK na (tm k 0) a ∨ UK na (tm k 1) b ∨ UK na (tm k 2) c)) (hg : GD k a b) : RA (na + 1) ρ' (mAdd (wI μ 0 55 0) na (nI k) a b c) := by
  obtain ⟨s1, s2, s3, s4, s5, s6, s7, s8⟩ := hS
  have G : ∀ p, p < 3 → sI (cGv σ na (nI k) a b c) 2 (4 * na + 1 + p) = arg (mAdd (wI μ 0 55 0) na (nI k) a b c) p na := by
    intro p hp
    unfold cGv arg mAdd
    rcases (show p = 0 ∨ p = 1 ∨ p = 2 by omega) with rfl | rfl | rfl
    · rw [i_j (by omega), i_j (by omega), Nat.add_zero, i_e, if_pos rfl, i_o (by decide), i_o (by decide), i_o (by decide), i_e]
    · rw [i_j (by omega), i_e, if_neg (by decide), if_pos rfl, i_o (by decide), i_o (by decide), i_e]
    · rw [i_e, if_neg (by decide), if_neg (by decide), i_o (by decide), i_e]
  have A : ∀ p, p < 3 → (tm k p = 1 ∨ tm k p = 2) → ∃ y, y < na ∧ arg (mAdd (wI μ 0 55 0) na (nI k) a b c) p na = nI y := by
    intro p hp ht
    have e2 : sI (mAdd (wI μ 0 55 0) na (nI k) a b c) 2 na = a := by
      unfold mAdd
      rw [i_o (by decide), i_o (by decide), i_o (by decide), i_e]
    have e3 : sI (mAdd (wI μ 0 55 0) na (nI k) a b c) 3 na = b := by
      unfold mAdd
      rw [i_o (by decide), i_o (by decide), i_e]
    have e4 : sI (mAdd (wI μ 0 55 0) na (nI k) a b c) 4 na = c := by
      unfold mAdd
      rw [i_o (by decide), i_e]
    unfold arg
    rw [e2, e3, e4]
    rcases (show p = 0 ∨ p = 1 ∨ p = 2 by omega) with rfl | rfl | rfl
    · exact Classical.byContradiction (fun h => nu (Or.inl ⟨ht, h⟩))
    · exact Classical.byContradiction (fun h => nu (Or.inr (Or.inl ⟨ht, h⟩)))
    · exact Classical.byContradiction (fun h => nu (Or.inr (Or.inr ⟨ht, h⟩)))
  have m2 : sI (mAdd (wI μ 0 55 0) na (nI k) a b c) 2 na = a := by
    unfold mAdd
    rw [i_o (by decide), i_o (by decide), i_o (by decide), i_e]
  have m3 : sI (mAdd (wI μ 0 55 0) na (nI k) a b c) 3 na = b := by
    unfold mAdd
    rw [i_o (by decide), i_o (by decide), i_e]
  have m4 : sI (mAdd (wI μ 0 55 0) na (nI k) a b c) 4 na = c := by
    unfold mAdd
    rw [i_o (by decide), i_e]
  have m1 : sI (mAdd (wI μ 0 55 0) na (nI k) a b c) 1 na = nI k := by
    unfold mAdd
    rw [i_o (by decide), i_o (by decide), i_o (by decide), i_o (by decide), i_e]
  refine ⟨?_, rfl, by omega, fun x hx => ?_⟩
  · rw [s1 1 3 (by decide) (by decide)]
    rfl
  · by_cases e : x = na
    · subst e
      obtain ⟨p0, p1, p2⟩ := ps_in hk
      refine ⟨k, hk, m1, ?_, ?_, ?_, ?_, s5, fun h => ?_, fun h => ?_, fun h => ?_, fun h => ?_, fun h => ?_, fun h => ?_, fun h => ?_⟩
      · rw [s1 2 _ (by decide) (by decide)]
        unfold cGv
        rw [i_j (by omega), i_j (by omega), i_j (by omega), i_e]
      · rw [s1 2 _ (by decide) (by decide), m2]
        unfold cGv
        rw [i_j (by omega), i_j (by omega), i_e]
      · rw [s1 2 _ (by decide) (by decide), m3]
        unfold cGv
        rw [i_j (by omega), i_e]
      · rw [s1 2 _ (by decide) (by decide), m4]
        unfold cGv
        rw [i_e]
      · rcases p0 h with ⟨e, t⟩ | ⟨e, t⟩ | ⟨e, t⟩
        · refine ⟨?_, ?_⟩
          · rw [s6 h, e]; exact G 0 (by omega)
          · rw [e]; exact A 0 (by omega) t
        · refine ⟨?_, ?_⟩
          · rw [s6 h, e]; exact G 1 (by omega)
          · rw [e]; exact A 1 (by omega) t
        · refine ⟨?_, ?_⟩
          · rw [s6 h, e]; exact G 2 (by omega)
          · rw [e]; exact A 2 (by omega) t
      · rcases p1 h with ⟨e, t⟩ | ⟨e, t⟩ | ⟨e, t⟩
        · refine ⟨?_, ?_⟩
          · rw [s7 h, e]; exact G 0 (by omega)
          · rw [e]; exact A 0 (by omega) t
        · refine ⟨?_, ?_⟩
          · rw [s7 h, e]; exact G 1 (by omega)
          · rw [e]; exact A 1 (by omega) t
        · refine ⟨?_, ?_⟩
          · rw [s7 h, e]; exact G 2 (by omega)
          · rw [e]; exact A 2 (by omega) t
      · rcases p2 h with ⟨e, t⟩ | ⟨e, t⟩ | ⟨e, t⟩
        · refine ⟨?_, ?_⟩
          · rw [s8 h, e]; exact G 0 (by omega)
          · rw [e]; exact A 0 (by omega) t
        · refine ⟨?_, ?_⟩
          · rw [s8 h, e]; exact G 1 (by omega)
          · rw [e]; exact A 1 (by omega) t
        · refine ⟨?_, ?_⟩
          · rw [s8 h, e]; exact G 2 (by omega)
          · rw [e]; exact A 2 (by omega) t
      · rw [m2]
        have hi : inb a 7 := by
          rcases h with h | h | h
          · exact hg.1 h
          · exact hg.2.2.1 (Or.inl h)
          · exact hg.2.2.1 (Or.inr h)
        obtain ⟨z, hz, e⟩ := inb_nat 7 rfl (by omega) hi
        exact ⟨z, by omega, e⟩
      · rw [m3]
        obtain ⟨z, hz, e⟩ := inb_nat 7 rfl (by omega) (hg.2.1 h)
        exact ⟨z, by omega, e⟩
      · rw [m3]
        obtain ⟨z, hz, e⟩ := inb_nat 8 rfl (by omega) (hg.2.2.2.1 h)
        exact ⟨z, by omega, e⟩
      · rw [m2]
        obtain ⟨z, hz, e⟩ := inb_nat 59 rfl (by omega) (hg.2.2.2.2 h)
        exact ⟨z, by omega, e⟩
    · have hx' : x < na := by omega
      have mo : ∀ o, 1 ≤ o → o ≤ 4 → sI (mAdd (wI μ 0 55 0) na (nI k) a b c) o x = sI μ o x := by
        intro o h1 h2
        unfold mAdd
        rw [i_o (by omega), i_j (by omega), i_j (by omega), i_j (by omega), i_j (by omega), i_o (by omega)]
      have ao : ∀ p, arg (mAdd (wI μ 0 55 0) na (nI k) a b c) p x = arg μ p x := by
        intro p
        unfold arg
        rw [mo 2 (by omega) (by omega), mo 3 (by omega) (by omega), mo 4 (by omega) (by omega)]
      have c2 : ∀ i, i < 4 → sI ρ' 2 (4 * x + i) = sI σ 2 (4 * x + i) := by
        intro i hi
        rw [s1 2 _ (by decide) (by decide)]
        unfold cGv
        rw [i_j (by omega), i_j (by omega), i_j (by omega), i_j (by omega), i_o (by decide)]
      have c3 : ∀ i, i < 3 → sI ρ' 3 (3 * x + i) = sI σ 3 (3 * x + i) := by
        intro i hi
        rw [s3 _ (by omega)]
        rfl
      have c4 : sI ρ' 4 x = sI σ 4 x := by
        rw [s4 x hx']
        rfl
      have c20 := c2 0 (by omega)
      have c30 := c3 0 (by omega)
      rw [Nat.add_zero] at c20 c30
      have := hRA.2.2.2 x hx'
      simp only [ao, mo 1 (by omega) (by omega), mo 2 (by omega) (by omega), mo 3 (by omega) (by omega), mo 4 (by omega) (by omega), c20, c2 1 (by omega), c2 2 (by omega), c2 3 (by omega), c30, c3 1 (by omega), c3 2 (by omega), c4]
      exact this
theorem act_ok {σ μ : Sg} {x a b c : Int32} {Q : Int32 → Sg → Prop} (h : REL σ μ) (q : ∀ r σ', (∀ K : Int32 → Sg → Prop, (∀ μ', REL σ' μ' → K r μ') → wX11_act μ x a b c K) → Q r σ') : wX10_act σ x a b c Q := by
  have h0 := h.thr (v := 0)
  obtain ⟨so, dl, ln, th, us, lm, na, tl, rn, t1, t2, t3, t4, t5, t6, t7, hRA, t8, t9, t10, t11, t12, k1, k2, k3, k4, k5, n1, n2, n3⟩ := h
  have hna := hRA.2.2.1
  have out : (x < 0 ∨ 31 < x) → ∀ K : Int32 → Sg → Prop, (∀ μ', REL σ μ' → K (-102) μ') → wX11_act μ x a b c K := by
    intro hx K hK
    unfold wX11_act
    refine m_in (fun g1 g2 => ?_) (fun _ => gT rfl (hK _ h0))
    rcases hx with hx | hx
    · exact absurd hx g1
    · exact absurd hx g2
  unfold wX10_act
  rcases casesN x (n := 32) (by omega) with hx | ⟨hx1, hx2⟩ | ⟨k, hk, rfl⟩
  · unfold wX0_refusalOf
    exact gT hx (gF (by decide) (q _ _ (out (Or.inl hx))))
  · have h31 : (31 : Int32) < x := by
      rw [Int32.lt_iff_toInt_lt] at hx2 ⊢
      have e1 : (nI 32).toInt = 32 := by decide
      have e2 : (31 : Int32).toInt = 31 := by decide
      omega
    unfold wX0_refusalOf
    exact gF hx1 (gT h31 (gF (by decide) (q _ _ (out (Or.inr h31)))))
  refine c_refusal hRA.1 hna hk (fun hU => ?_) (fun nu hO => ?_) (fun nu no h60 => ?_) (fun nu no h60 => ?_)
  · refine gF (by decide) (q _ _ (fun K hK => ?_))
    exact m_act hRA.2.1 hna hk (fun _ => hK _ h0) (fun g => absurd hU g) (fun g => absurd hU g) (fun g => absurd hU g)
  · refine gF (by decide) (q _ _ (fun K hK => ?_))
    have ng := (ou_gd hk).mp hO
    exact m_act hRA.2.1 hna hk (fun g => absurd g nu) (fun _ _ => hK _ h0) (fun _ g => absurd g ng) (fun _ g => absurd g ng)
  · refine gF (by decide) (q _ _ (fun K hK => ?_))
    exact m_act hRA.2.1 hna hk (fun g => absurd g nu) (fun _ g => absurd ((ou_gd hk).mpr g) no) (fun _ _ _ => hK _ h0) (fun _ _ g => by omega)
  · refine gT rfl ?_
    have hg : GD k a b := Classical.byContradiction (fun g => no ((ou_gd (c := c) hk).mpr g))
    have e4 : (4 : Int32) * nI na = nI (4 * na) := mulN 4 na rfl rfl
    have ea : nI (4 * na) + (1 : Int32) = nI (4 * na + 1) := addN _ 1 rfl rfl
    have eb : nI (4 * na) + (2 : Int32) = nI (4 * na + 2) := addN _ 2 rfl rfl
    have ec : nI (4 * na) + (3 : Int32) = nI (4 * na + 3) := addN _ 3 rfl rfl
    have e3 : (3 : Int32) * nI k = nI (3 * k) := mulN 3 k rfl rfl
    unfold wX0_add
    rw [hRA.1, e4, ea, eb, ec, e3, nI_clamp (by omega), nI_clamp (by omega), nI_clamp (by omega), nI_clamp (by omega), nI_1]
    refine ⟨vp_in_nI (by omega) (by decide), vp_in_nI (by omega) (by decide), vp_in_nI (by omega) (by decide), vp_in_nI (by omega) (by decide), ?_⟩
    refine sp_ok (ρ := cGv σ na (nI k) a b c) h60 hk (fun ρ' hS => q _ _ (fun K hK => ?_))
    refine m_act hRA.2.1 hna hk (fun g => absurd g nu) (fun _ g => absurd hg g) (fun _ _ g => by omega) (fun _ _ _ => hK _ ?_)
    have sL' : ∀ o, sL ρ' o = sL σ o := fun o => funext (fun j => hS.2.1 o j)
    have cI : ∀ o j, (o = 0 ∨ 5 ≤ o) → sI ρ' o j = sI σ o j := by
      intro o j ho
      rw [hS.1 o j (by omega) (by omega)]
      unfold cGv
      rw [i_o (by omega), i_o (by omega), i_o (by omega), i_o (by omega), i_o (by omega)]
    refine ⟨so, dl, ln, th, us, lm, na + 1, tl, rn, by rw [sL']; exact t1, by rw [sL']; exact t2, by rw [cI _ _ (by omega)]; exact t3, t4, t5, t6, t7, hRA.add h60 hk hS nu hg, fun j hj => by rw [cI _ _ (by omega)]; exact t8 j hj, by rw [cI _ _ (by omega)]; exact t9, t10, t11, by rw [sL']; exact t12, by rw [cI _ _ (by omega)]; exact k1, by rw [cI _ _ (by omega)]; exact k2, by rw [cI _ _ (by omega)]; exact k3, by rw [cI _ _ (by omega)]; exact k4, by rw [cI _ _ (by omega)]; exact k5, by rw [cI _ _ (by omega)]; exact n1, n2, n3⟩
