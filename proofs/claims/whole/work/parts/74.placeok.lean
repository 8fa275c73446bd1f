theorem Mm.place {so dl ln : Nat → Nat} {th us lm k i : Nat} {σ μ : Sg} (hT : Th so dl ln th us lm (sI μ 5) (sL σ 7)) (hM : Mm so dl ln th (sL σ 7) (mT μ) (mN μ)) (hk : k < th) (h4 : so k ≤ 4) (hi : i < ln k) : i < 16 ∧ dl k + 1 + i < us ∧ V so dl th (sL σ 7 (dl k + 1 + i)) (sI μ 6 (16 * k + i)) (sI μ 7 (16 * k + i)) ∧ typ so (8 + 16 * k + i) (sI μ 6 (16 * k + i)) := by
  obtain ⟨-, -, h3, -, -⟩ := hT.1 k hk
  obtain ⟨a1, a2, a3, a4, a5⟩ := h3 h4
  have h16 : i < 16 := by omega
  obtain ⟨e1, e2⟩ := w_div (k := k) h16
  have hv : vld so ln th (8 + 16 * k + i) := by
    refine Or.inr ⟨by omega, ?_, ?_⟩
    · rw [e1]; exact hk
    · rw [e1, e2]; exact Or.inl ⟨h4, hi⟩
  have hc : cad so dl (8 + 16 * k + i) = dl k + 1 + i := by
    unfold cad
    rw [if_neg (by omega), e1, e2, if_pos h4]
  have hm := hM _ hv
  rw [hc] at hm
  have x1 : mT μ (8 + 16 * k + i) = sI μ 6 (16 * k + i) := by
    unfold mT
    rw [if_neg (by omega), show 8 + 16 * k + i - 8 = 16 * k + i by omega]
  have x2 : mN μ (8 + 16 * k + i) = sI μ 7 (16 * k + i) := by
    unfold mN
    rw [if_neg (by omega), show 8 + 16 * k + i - 8 = 16 * k + i by omega]
  rw [x1, x2] at hm
  exact ⟨h16, by omega, hm.1, hm.2⟩
theorem place_ok {σ μ : Sg} (h : REL σ μ) (i : Int32) :
    (∃ r : Int32, wX10_placeN σ i (fun r' σ' => r' = r ∧ σ = σ') ∧ ∀ K : Int32 → Sg → Prop, (∀ μ', REL σ μ' → sI μ' 0 55 = 0 → K r μ') → wX11_place μ i K) ∨
    (isRw (srt (sL σ 10 6)) ∧ ∃ len : Int32, (∀ Q : Int32 → Sg → Prop, Q len σ → wX7_lengthOf σ (sL σ 10 6) Q) ∧ (i < 0 ∨ ¬ i < len) ∧ ∀ K : Int32 → Sg → Prop, (∀ μ', REL σ μ' → sI μ' 0 55 = 1 → K 0 μ') → wX11_place μ i K) := by
  have h0 := h.thr (v := 0)
  have h1 := h0.thr (v := 1)
  obtain ⟨so, dl, ln, th, us, lm, na, tl, rn, t1, t2, t3, t4, t5, t6, t7, hRA, t8, t9, t10, t11, t12, -⟩ := h
  have hs := t12.srt
  by_cases hr : isRw (sI μ 0 48)
  · have hr' : isRw (srt (sL σ 10 6)) := by rw [hs]; exact hr
    obtain ⟨k0, a1, a2, a3, a4, a5, a6⟩ := t12.row hr
    obtain ⟨-, -, h3, -, -⟩ := t1.1 k0 a1
    obtain ⟨b1, b2, b3, b4, b5⟩ := h3 a3
    have hlen : ∀ Q : Int32 → Sg → Prop, Q (nI (ln k0)) σ → wX7_lengthOf σ (sL σ 10 6) Q := fun Q q => c_lengthOf t3 t4 hr' a6 (by omega) (by rw [b5, nbr_pk]; exact q)
    have hv0 : vp_in (nI k0) 220 := vp_in_nI (by omega) (by decide)
    by_cases hi : ∃ j, j < ln k0 ∧ i = nI j
    · obtain ⟨j, hj, rfl⟩ := hi
      obtain ⟨c1, c2, c3, c4⟩ := Mm.place t1 t2 a1 a3 hj
      obtain ⟨w1, w2⟩ := w_div (k := k0) c1
      have c4 := c4 (by omega)
      rw [w1] at c4
      have ecl : (nbr (sL σ 10 6) + 1) + nI j = nI (dl k0 + 1 + j) := addN _ _ (addN _ 1 a6 rfl) rfl
      have e16 : ((16 : Int32) * nI k0) + nI j = nI (16 * k0 + j) := addN (16 * k0) j (mulN 16 k0 rfl rfl) rfl
      have hv1 : vp_in (nI (16 * k0 + j)) 3520 := vp_in_nI (by omega) (by decide)
      have hp : (¬ nI j < 0 ∧ ¬ (nI (ln k0) - 1) < nI j) := (in_sub (by omega)).mpr ⟨j, hj, rfl⟩
      have hss := c3.srt
      left
      -- the road of the class to what it reads
      have clas : ∀ Q : Int32 → Sg → Prop, (sI μ 6 (16 * k0 + j) = 0 → Q (sI μ 7 (16 * k0 + j)) σ) → (sI μ 6 (16 * k0 + j) = 5 → Q 1 σ) → (sI μ 6 (16 * k0 + j) = 6 → Q 2 σ) → (¬ sI μ 6 (16 * k0 + j) = 0 → ¬ sI μ 6 (16 * k0 + j) = 5 → ¬ sI μ 6 (16 * k0 + j) = 6 → Q 0 σ) → wX10_placeN σ (nI j) Q := by
        intro Q q0 q5 q6 qe
        unfold wX10_placeN
        refine c_isRow (fun _ => gF ne10 ⟨hp.1, hlen _ ⟨ltN j (ln k0) rfl rfl hj (by omega), c_cellOf ?_⟩⟩) (fun g => absurd hr' g)
        rw [ecl]
        refine c_read rfl t3 t4 c2 (c_sort ?_)
        rw [hss]
        refine ⟨fun g => c_number ?_, q5, q6, qe⟩
        rw [c3.num g]
        exact q0 g
      -- the model's road to its own
      have mod : ∀ K : Int32 → Sg → Prop, (sI μ 0 48 = 2 → K (sI μ 7 (16 * k0 + j)) (wI μ 0 55 0)) → (¬ sI μ 0 48 = 2 → sI μ 6 (16 * k0 + j) = 1 → K 0 (wI μ 0 55 0)) → (¬ sI μ 0 48 = 2 → sI μ 6 (16 * k0 + j) = 5 → K 1 (wI μ 0 55 0)) → (¬ sI μ 0 48 = 2 → ¬ sI μ 6 (16 * k0 + j) = 1 → ¬ sI μ 6 (16 * k0 + j) = 5 → K 2 (wI μ 0 55 0)) → wX11_place μ (nI j) K := by
        intro K q2 q1 q5 q6
        unfold wX11_place
        have f1 : sI (wI μ 0 55 0) 0 49 = nI k0 := a5
        have f2 : sI (wI μ 0 55 0) 5 k0 = nI (ln k0) := b1
        have f3 : sI (wI μ 0 55 0) 0 48 = sI μ 0 48 := rfl
        have f4 : sI (wI μ 0 55 0) 6 (16 * k0 + j) = sI μ 6 (16 * k0 + j) := rfl
        have f5 : sI (wI μ 0 55 0) 7 (16 * k0 + j) = sI μ 7 (16 * k0 + j) := rfl
        refine m_isRow (fun _ => gF ne10 ?_) (fun g => absurd hr g)
        rw [f1, nI_clamp (by omega), f2]
        refine ⟨hv0, m_in (fun _ _ => gF ne10 ?_) (fun g => ?_)⟩
        · rw [f1, e16, nI_clamp (by omega), f3, f4, f5]
          exact ⟨fun g => ⟨hv1, q2 g⟩, fun g => ⟨hv1, fun g1 => q1 g g1, fun g1 => ⟨hv1, fun g5 => q5 g g5, fun g5 => q6 g g1 g5⟩⟩⟩
        · rcases g with g | g
          · exact absurd g hp.1
          · exact absurd g hp.2
      have s2 : ∀ n : Nat, n < 10 → (sI μ 0 48 = nI n ↔ so k0 = n) := fun n hn => by
        rw [a4]
        exact ⟨fun g => eqN g (by omega) (by omega), fun g => by rw [g]⟩
      by_cases g2 : so k0 = 2
      · have z := c4.1 g2
        have g48 : sI μ 0 48 = 2 := (s2 2 (by omega)).mpr g2
        refine ⟨sI μ 7 (16 * k0 + j), clas _ (fun _ => ⟨rfl, rfl⟩) (fun g => ?_) (fun g => ?_) (fun g => absurd z g), fun K hK => mod K (fun _ => hK _ h0 rfl) (fun g => absurd g48 g) (fun g => absurd g48 g) (fun g => absurd g48 g)⟩
        · rw [z] at g; exact absurd g (by decide)
        · rw [z] at g; exact absurd g (by decide)
      · have n48 : ¬ sI μ 0 48 = 2 := fun g => g2 ((s2 2 (by omega)).mp g)
        have tt : sI μ 6 (16 * k0 + j) = 1 ∨ sI μ 6 (16 * k0 + j) = 5 ∨ sI μ 6 (16 * k0 + j) = 6 := by
          rcases (show so k0 = 3 ∨ so k0 = 4 by omega) with g | g
          · exact c4.2.1 g
          · rcases c4.2.2 g with g | g
            · exact Or.inl g
            · exact Or.inr (Or.inr g)
        rcases tt with z | z | z
        · refine ⟨0, clas _ (fun g => ?_) (fun g => ?_) (fun g => ?_) (fun _ _ _ => ⟨rfl, rfl⟩), fun K hK => mod K (fun g => absurd g n48) (fun _ _ => hK _ h0 rfl) (fun _ g => ?_) (fun _ g => absurd z g)⟩
          · rw [z] at g; exact absurd g (by decide)
          · rw [z] at g; exact absurd g (by decide)
          · rw [z] at g; exact absurd g (by decide)
          · rw [z] at g; exact absurd g (by decide)
        · refine ⟨1, clas _ (fun g => ?_) (fun _ => ⟨rfl, rfl⟩) (fun g => ?_) (fun _ g => absurd z g), fun K hK => mod K (fun g => absurd g n48) (fun _ g => ?_) (fun _ _ => hK _ h0 rfl) (fun _ _ g => absurd z g)⟩
          · rw [z] at g; exact absurd g (by decide)
          · rw [z] at g; exact absurd g (by decide)
          · rw [z] at g; exact absurd g (by decide)
        · refine ⟨2, clas _ (fun g => ?_) (fun g => ?_) (fun _ => ⟨rfl, rfl⟩) (fun _ _ g => absurd z g), fun K hK => mod K (fun g => absurd g n48) (fun _ g => ?_) (fun _ g => ?_) (fun _ _ _ => hK _ h0 rfl)⟩
          · rw [z] at g; exact absurd g (by decide)
          · rw [z] at g; exact absurd g (by decide)
          · rw [z] at g; exact absurd g (by decide)
          · rw [z] at g; exact absurd g (by decide)
    · right
      refine ⟨hr', nI (ln k0), hlen, ?_, fun K hK => ?_⟩
      · rcases casesN i (n := ln k0) (by omega) with g | ⟨-, g⟩ | g
        · exact Or.inl g
        · exact Or.inr g
        · exact absurd g hi
      · unfold wX11_place
        have f1 : sI (wI μ 0 55 0) 0 49 = nI k0 := a5
        have f2 : sI (wI μ 0 55 0) 5 k0 = nI (ln k0) := b1
        refine m_isRow (fun _ => gF ne10 ?_) (fun g => absurd hr g)
        rw [f1, nI_clamp (by omega), f2]
        exact ⟨hv0, m_in (fun g1 g2 => absurd ((in_sub (by omega)).mp ⟨g1, g2⟩) hi) (fun _ => gT rfl (hK _ h1 rfl))⟩
  · left
    refine ⟨0, ?_, fun K hK => ?_⟩
    · unfold wX10_placeN
      exact c_isRow (fun g => absurd (by rw [← hs]; exact g) hr) (fun _ => gT rfl ⟨rfl, rfl⟩)
    · unfold wX11_place
      exact m_isRow (fun g => absurd g hr) (fun _ => gT rfl (hK _ h0 rfl))
