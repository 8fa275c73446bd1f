theorem wI_wI (μ : Sg) (a b : Nat) (x y : Int32) : wI (wI μ a b x) a b y = wI μ a b y := by
  unfold wI
  congr 1
  funext c d
  by_cases h : c = a ∧ d = b
  · simp [h]
  · simp [h]
section MF
variable {μ : Sg} {K : Sg → Prop} {n a f k p t : Nat}
theorem m_leave_none {x y : Int32} (hk : k < 32) (h25 : ¬ (k = 25 ∧ y = 1)) (h28 : ¬ (k = 28 ∧ y = 1)) (h29 : k ≠ 29) (q : K μ) : wX11_leave μ (nI n) x (nI k) y K := by
  have ne : ∀ c : Nat, c < 100 → k ≠ c → ¬ nI k = nI c := fun c hc h => neN k c rfl rfl h (by omega) (by omega)
  have eq : ∀ c : Nat, c < 100 → nI k = nI c → k = c := fun c hc h => eqN h (by omega) (by omega)
  unfold wX11_leave wX11_leave_16 wX11_leave_38
  refine gF (ne 29 (by decide) h29) ?_
  have p2 : (nI k = (28 : Int32) → (y = 1 → vp_in (nI n) 220 ∧ vp_in (sI μ 25 (nI n).toNatClampNeg) 220 ∧ K (wI μ 10 (sI μ 25 (nI n).toNatClampNeg).toNatClampNeg 0)) ∧ (¬ y = 1 → K μ)) ∧ (¬ nI k = (28 : Int32) → K μ) := ⟨fun h => gF (fun g => h28 ⟨eq 28 (by decide) h, g⟩) q, fun _ => q⟩
  exact ⟨fun h => gF (fun g => h25 ⟨eq 25 (by decide) h, g⟩) p2, fun _ => p2⟩
theorem m_leave_25 {x : Int32} {c : Nat} (hc : sI μ 0 47 = nI (c + 1)) (q : K (wI μ 0 47 (nI c))) : wX11_leave μ (nI n) x (nI 25) 1 K := by
  unfold wX11_leave wX11_leave_16 wX11_leave_38
  refine gF (by decide) (gT rfl (gT rfl ?_))
  rw [show sI μ 0 47 - (1 : Int32) = nI c from subN (c + 1) 1 hc rfl (by omega)]
  exact gF (by decide) q
theorem m_leave_28 {x : Int32} (hn : n < 220) (ht : sI μ 25 n = nI t) (ht2 : t < 220) (q : K (wI μ 10 t 0)) : wX11_leave μ (nI n) x (nI 28) 1 K := by
  unfold wX11_leave wX11_leave_16 wX11_leave_38
  refine gF (by decide) (gF (by decide) (gT rfl (gT rfl ?_)))
  rw [nI_clamp (by omega), ht, nI_clamp (by omega)]
  exact ⟨vp_in_nI hn (by decide), vp_in_nI ht2 (by decide), q⟩
theorem back_mono {K' : Sg → Prop} (hK : ∀ σ, K σ → K' σ) {l : Int32} (q : wX11_back μ l K) : wX11_back μ l K' := by
  obtain ⟨m, q⟩ := q
  refine ⟨m, ?_⟩
  have mono : ∀ (m : Nat) (σ : Sg) (l : Int32), wX11_back_0 m σ l K → wX11_back_0 m σ l K' := by
    intro m
    induction m with
    | zero => intro σ l h; exact False.elim h
    | succ m ih =>
      intro σ l h
      unfold wX11_back_0 at h ⊢
      refine ⟨fun g => ?_, fun g => hK _ (h.2 g)⟩
      have h1 := h.1 g
      refine ⟨h1.1, fun g2 => ?_, fun g2 => ?_⟩
      · have h2 := h1.2.1 g2
        exact ⟨h2.1, h2.2.1, h2.2.2.1, h2.2.2.2.1, ih _ _ h2.2.2.2.2⟩
      · have h2 := h1.2.2 g2
        exact ⟨h2.1, h2.2.1, h2.2.2.1, h2.2.2.2.1, ih _ _ h2.2.2.2.2⟩
  exact mono m μ l q
theorem m_leave_29 {x y : Int32} (hn : n < 220) (q : wX11_back μ (sI μ 28 n) K) : wX11_leave μ (nI n) x (nI 29) y K := by
  unfold wX11_leave wX11_leave_16 wX11_leave_38
  refine gT rfl ⟨vp_in_nI hn (by decide), ?_⟩
  have e : (nI n).toNatClampNeg = n := nI_clamp (by omega)
  rw [show sI μ 28 (nI n).toNatClampNeg = sI μ 28 n by rw [e]]
  exact back_mono (fun σ1 h => gF (by decide) (gF (by decide) h)) q
/-- what upFailure reads first -/
theorem m_upF_catch (ht : sI μ 0 26 = nI (n + 1)) (hn : n < 220) (ha : sI μ 21 n = nI a) (ha2 : a < 60) (hk : sI μ 1 a = nI 21) (hp : sI μ 22 n = 0) (hf : sI μ 23 n = nI f) (hf2 : f < 220) (hb : sI μ 3 a = 0 ∨ sI μ 3 a = sI μ 0 41) (q : K (mStart (wI (wI (wI μ 13 (8 * f + 7) 0) 14 (8 * f + 7) (sI μ 0 42)) 22 n 1) (sI μ 4 a) (nI f))) : wX11_upFailure μ K := by
  have hv : vp_in (nI n) 220 := vp_in_nI hn (by decide)
  have hw : vp_in (nI a) 60 := vp_in_nI ha2 (by decide)
  have e : sI μ 0 26 - (1 : Int32) = nI n := subN (n + 1) 1 ht rfl (by omega)
  unfold wX11_upFailure
  rw [e, nI_clamp (by omega), ha]
  dsimp only
  rw [nI_clamp (by omega), hk, hp]
  refine ⟨hv, hw, hv, gT rfl (gT rfl ⟨hw, ?_⟩)⟩
  have p : wX11_upFailure_62 μ (nI n) (nI a) K := by
    unfold wX11_upFailure_62
    rw [nI_clamp (by omega), nI_clamp (by omega), hf]
    have e7 : ((8 : Int32) * nI f) + (7 : Int32) = nI (8 * f + 7) := addN (8 * f) 7 (mulN 8 f rfl rfl) rfl
    rw [e7]
    dsimp only
    rw [nI_clamp (by omega)]
    exact ⟨hv, vp_in_nI (by omega) (by decide), vp_in_nI (by omega) (by decide), hv, hw, hv, q⟩
  rcases hb with hb | hb
  · exact gT hb p
  · by_cases h0 : sI μ 3 a = 0
    · exact gT h0 p
    · exact gF h0 ⟨hw, gT hb p⟩
theorem m_upF_hold (ht : sI μ 0 26 = nI (n + 1)) (hn : n < 220) (ha : sI μ 21 n = nI a) (ha2 : a < 60) (hk : sI μ 1 a = nI 22) (hp : sI μ 22 n = 0) (hf : sI μ 23 n = nI f) (q : K (mStart (wI (wI (wI (wI μ 24 n (sI μ 0 41)) 25 n (sI μ 0 42)) 29 n (sI μ 0 43)) 22 n 2) (sI μ 3 a) (nI f))) : wX11_upFailure μ K := by
  have hv : vp_in (nI n) 220 := vp_in_nI hn (by decide)
  have hw : vp_in (nI a) 60 := vp_in_nI ha2 (by decide)
  have e : sI μ 0 26 - (1 : Int32) = nI n := subN (n + 1) 1 ht rfl (by omega)
  unfold wX11_upFailure wX11_upFailure_121
  rw [e, nI_clamp (by omega), ha]
  dsimp only
  rw [nI_clamp (by omega), hk, hp]
  refine ⟨hv, hw, hv, gF (by decide) (gT rfl (gT rfl ⟨hv, hv, hv, hv, hw, hv, ?_⟩))⟩
  rw [hf]
  exact q
theorem m_upF_pop (ht : sI μ 0 26 = nI (n + 1)) (hn : n < 220) (ha : sI μ 21 n = nI a) (ha2 : a < 60) (hk : sI μ 1 a = nI k) (hk32 : k < 32) (h21 : k = 21 → sI μ 22 n = 0 → ¬ (sI μ 3 a = 0 ∨ sI μ 3 a = sI μ 0 41)) (h22 : k = 22 → ¬ sI μ 22 n = 0) (q : wX11_leave (wI μ 0 26 (nI n)) (nI n) (nI a) (nI k) (sI μ 22 n) (fun σ2 => (nI k = (28 : Int32) → ((sI μ 22 n = 1 → vp_in (sI σ2 25 n) 220 ∧ K (wI (wI (wI σ2 10 (sI σ2 25 n).toNatClampNeg 3) 11 (sI σ2 25 n).toNatClampNeg (sI σ2 0 41)) 12 (sI σ2 25 n).toNatClampNeg (sI σ2 0 42))) ∧ (¬ sI μ 22 n = 1 → K σ2))) ∧ (¬ nI k = (28 : Int32) → K σ2))) : wX11_upFailure μ K := by
  have hv : vp_in (nI n) 220 := vp_in_nI hn (by decide)
  have hw : vp_in (nI a) 60 := vp_in_nI ha2 (by decide)
  have e : sI μ 0 26 - (1 : Int32) = nI n := subN (n + 1) 1 ht rfl (by omega)
  have eq : ∀ c : Nat, c < 100 → nI k = nI c → k = c := fun c hc h => eqN h (by omega) (by omega)
  have p : wX11_upFailure_188 μ (nI n) (nI a) (nI k) (sI μ 22 n) K := by
    unfold wX11_upFailure_188
    rw [e]
    have c1 : (nI n).toNatClampNeg = n := nI_clamp (by omega)
    have key : (fun σ2 => (nI k = (28 : Int32) → ((sI μ 22 n = 1 → vp_in (nI n) 220 ∧ vp_in (sI σ2 25 (nI n).toNatClampNeg) 220 ∧ vp_in (nI n) 220 ∧ vp_in (sI σ2 25 (nI n).toNatClampNeg) 220 ∧ vp_in (nI n) 220 ∧ vp_in (sI σ2 25 (nI n).toNatClampNeg) 220 ∧ K (wI (wI (wI σ2 10 (sI σ2 25 (nI n).toNatClampNeg).toNatClampNeg 3) 11 (sI σ2 25 (nI n).toNatClampNeg).toNatClampNeg (sI σ2 0 41)) 12 (sI σ2 25 (nI n).toNatClampNeg).toNatClampNeg (sI σ2 0 42))) ∧ (¬ sI μ 22 n = 1 → K σ2))) ∧ (¬ nI k = (28 : Int32) → K σ2)) = (fun σ2 => (nI k = (28 : Int32) → ((sI μ 22 n = 1 → vp_in (sI σ2 25 n) 220 ∧ K (wI (wI (wI σ2 10 (sI σ2 25 n).toNatClampNeg 3) 11 (sI σ2 25 n).toNatClampNeg (sI σ2 0 41)) 12 (sI σ2 25 n).toNatClampNeg (sI σ2 0 42))) ∧ (¬ sI μ 22 n = 1 → K σ2))) ∧ (¬ nI k = (28 : Int32) → K σ2)) := by
      funext σ2
      rw [c1]
      apply propext
      constructor
      · rintro ⟨p1, p2⟩
        exact ⟨fun g => ⟨fun g2 => ⟨((p1 g).1 g2).2.1, ((p1 g).1 g2).2.2.2.2.2.2⟩, (p1 g).2⟩, p2⟩
      · rintro ⟨p1, p2⟩
        exact ⟨fun g => ⟨fun g2 => ⟨hv, ((p1 g).1 g2).1, hv, ((p1 g).1 g2).1, hv, ((p1 g).1 g2).1, ((p1 g).1 g2).2⟩, (p1 g).2⟩, p2⟩
    show wX11_leave (wI μ 0 26 (nI n)) (nI n) (nI a) (nI k) (sI μ 22 n) _
    exact key ▸ q
  have p121 : wX11_upFailure_121 μ (nI n) (nI a) (nI k) (sI μ 22 n) K := by
    unfold wX11_upFailure_121
    refine ⟨fun g => gF (h22 (eq 22 (by decide) g)) p, fun _ => p⟩
  unfold wX11_upFailure
  rw [e, nI_clamp (by omega), ha]
  dsimp only
  rw [nI_clamp (by omega), hk]
  refine ⟨hv, hw, hv, fun g => ⟨fun g2 => ⟨hw, fun g3 => ?_, fun g3 => ⟨hw, fun g4 => ?_, fun _ => p121⟩⟩, fun _ => p121⟩, fun _ => p121⟩
  · exact absurd (Or.inl g3) (h21 (eq 21 (by decide) g) g2)
  · exact absurd (Or.inr g4) (h21 (eq 21 (by decide) g) g2)
end MF
