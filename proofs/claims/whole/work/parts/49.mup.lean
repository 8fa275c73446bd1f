def aof (k : Nat) : Nat := ([0, 0, 0, 3, 5, 3, 3, 3, 3, 3, 1, 1, 1, 1, 1, 3, 7, 1, 3, 7, 1, 5, 3, 7, 3, 2, 1, 1, 1, 1, 0, 2] : List Nat).getD k 0
theorem k32 {k : Nat} (h : k < 32) : k = 0 ∨ k = 1 ∨ k = 2 ∨ k = 3 ∨ k = 4 ∨ k = 5 ∨ k = 6 ∨ k = 7 ∨ k = 8 ∨ k = 9 ∨ k = 10 ∨ k = 11 ∨ k = 12 ∨ k = 13 ∨ k = 14 ∨ k = 15 ∨ k = 16 ∨ k = 17 ∨ k = 18 ∨ k = 19 ∨ k = 20 ∨ k = 21 ∨ k = 22 ∨ k = 23 ∨ k = 24 ∨ k = 25 ∨ k = 26 ∨ k = 27 ∨ k = 28 ∨ k = 29 ∨ k = 30 ∨ k = 31 := by omega
theorem m_actsOf {μ : Sg} {k : Nat} {Q : Int32 → Sg → Prop} (hk : k < 32) (q : Q (nI (aof k)) μ) : wX11_actsOf μ (nI k) Q := by
  unfold wX11_actsOf
  rcases k32 hk with rfl | rfl | rfl | rfl | rfl | rfl | rfl | rfl | rfl | rfl | rfl | rfl | rfl | rfl | rfl | rfl | rfl | rfl | rfl | rfl | rfl | rfl | rfl | rfl | rfl | rfl | rfl | rfl | rfl | rfl | rfl | rfl
  all_goals first
    | (repeat refine gS (by decide) ?_
       first
         | (refine ⟨fun _ => q, ?_⟩
            repeat refine gS (by decide) ?_
            intros; contradiction)
         | (intros; exact q))
theorem aof7 {k : Nat} (h : k < 32) : nI (aof k) = (7 : Int32) ↔ (k = 16 ∨ k = 19 ∨ k = 23) := by
  have : ∀ k, k < 32 → (nI (aof k) = (7 : Int32) ↔ (k = 16 ∨ k = 19 ∨ k = 23)) := by decide
  exact this k h
section MU
variable {μ : Sg} {K : Sg → Prop} {n a f k p : Nat}
def mKX (μ : Sg) (n : Nat) : Sg := wI (wI (wI μ 24 n (sI μ 0 39)) 25 n (sI μ 0 40)) 22 n 1
def mKY (μ : Sg) (n : Nat) : Sg := wI (wI (wI μ 26 n (sI μ 0 39)) 27 n (sI μ 0 40)) 22 n 2
theorem m_keepX (hn : n < 220) (q : K (mKX μ n)) : wX11_keepX μ (nI n) K := by
  have hv : vp_in (nI n) 220 := vp_in_nI hn (by decide)
  unfold wX11_keepX
  rw [nI_clamp (by omega)]
  exact ⟨hv, hv, hv, q⟩
theorem m_keepY (hn : n < 220) (q : K (mKY μ n)) : wX11_keepY μ (nI n) K := by
  have hv : vp_in (nI n) 220 := vp_in_nI hn (by decide)
  unfold wX11_keepY
  rw [nI_clamp (by omega)]
  exact ⟨hv, hv, hv, q⟩
/-- a pair, or a triple at its first part: x is kept, y begins -/
def isP2 (k : Nat) : Prop := k = 3 ∨ k = 5 ∨ k = 6 ∨ k = 7 ∨ k = 8 ∨ k = 9 ∨ k = 15 ∨ k = 18 ∨ k = 22
theorem m_up (ht : sI μ 0 26 = nI (n + 1)) (hn : n < 220) (ha : sI μ 21 n = nI a) (ha2 : a < 60) (hf : sI μ 23 n = nI f) (hk : sI μ 1 a = nI k) (hk32 : k < 32) (hp : sI μ 22 n = nI p) (hp3 : p < 3)
    (kX : p = 0 → (isP2 k ∨ k = 16 ∨ k = 19) → K (mStart (mKX μ n) (sI μ 3 a) (nI f))) (kY : p = 1 → (k = 16 ∨ k = 19) → K (mStart (mKY μ n) (sI μ 4 a) (nI f))) (kO : ¬ (p = 0 ∧ (isP2 k ∨ k = 16 ∨ k = 19)) → ¬ (p = 1 ∧ (k = 16 ∨ k = 19)) → wX11_upOf μ (nI n) (nI a) (nI f) (nI k) (nI p) (fun σ' => K σ')) : wX11_up μ K := by
  have hv : vp_in (nI n) 220 := vp_in_nI hn (by decide)
  have hw : vp_in (nI a) 60 := vp_in_nI ha2 (by decide)
  have e : sI μ 0 26 - (1 : Int32) = nI n := subN (n + 1) 1 ht rfl (by omega)
  have eq : ∀ c : Nat, c < 100 → nI k = nI c → k = c := fun c hc h => eqN h (by omega) (by omega)
  have ep : ∀ c : Nat, c < 100 → nI p = nI c → p = c := fun c hc h => eqN h (by omega) (by omega)
  have na : (nI a).toNatClampNeg = a := nI_clamp (by omega)
  -- the pairs
  have p143 : ∀ z : Int32, (z = 0 ∧ ¬ (k = 5 ∨ k = 6 ∨ k = 7 ∨ k = 8 ∨ k = 9 ∨ k = 15 ∨ k = 18)) ∨ (z = 1 ∧ (k = 5 ∨ k = 6 ∨ k = 7 ∨ k = 8 ∨ k = 9 ∨ k = 15 ∨ k = 18)) → ¬ (p = 0 ∧ (k = 16 ∨ k = 19)) → ¬ (p = 1 ∧ (k = 16 ∨ k = 19)) → wX11_up_143 μ (nI n) (nI a) (nI f) (nI k) (nI p) z K := by
    intro z hz n0 n1
    have q168 : p = 0 → isP2 k → wX11_up_168 μ (nI n) (nI a) (nI f) K := by
      intro h0 h2
      unfold wX11_up_168
      refine m_keepX hn ⟨hw, ?_⟩
      rw [na]
      exact kX h0 (Or.inl h2)
    have q185 : ¬ (p = 0 ∧ isP2 k) → wX11_up_185 μ (nI n) (nI a) (nI f) (nI k) (nI p) K := by
      intro h
      unfold wX11_up_185
      exact kO (fun g => by rcases g with ⟨g1, g2 | g2⟩; exact h ⟨g1, g2⟩; exact n0 ⟨g1, g2⟩) n1
    unfold wX11_up_143
    refine ⟨fun g => ?_, fun g => q185 (fun h => g (by rw [h.1]; rfl))⟩
    have h0 : p = 0 := ep 0 (by decide) g
    rcases hz with ⟨rfl, hz⟩ | ⟨rfl, hz⟩
    · refine gT rfl ⟨fun g3 => q168 h0 (Or.inl (eq 3 (by decide) g3)), fun g3 => ⟨fun g22 => q168 h0 (by have := eq 22 (by decide) g22; unfold isP2; omega), fun g22 => q185 (fun h => ?_)⟩⟩
      have h2 := h.2
      unfold isP2 at h2
      rcases h2 with r | r | r | r | r | r | r | r | r
      · exact g3 (by rw [r]; rfl)
      · exact hz (by omega)
      · exact hz (by omega)
      · exact hz (by omega)
      · exact hz (by omega)
      · exact hz (by omega)
      · exact hz (by omega)
      · exact hz (by omega)
      · exact g22 (by rw [r]; rfl)
    · exact gF ne10 (q168 h0 (by unfold isP2; omega))
  have p113 : ¬ (p = 0 ∧ (k = 16 ∨ k = 19)) → ¬ (p = 1 ∧ (k = 16 ∨ k = 19)) → wX11_up_113 μ (nI n) (nI a) (nI f) (nI k) (nI p) K := by
    intro n0 n1
    unfold wX11_up_113 wX11_up_138
    refine m_in (fun h1 h2 => gF ne10 (p143 1 (Or.inr ⟨rfl, ?_⟩) n0 n1)) (fun h => gT rfl ?_)
    · have a1 : ¬ k < 5 := fun q => h1 (ltN k 5 rfl rfl q (by decide))
      have a2 : ¬ 9 < k := fun q => h2 (ltN 9 k rfl rfl q (by omega))
      omega
    · have a1 : k < 5 ∨ 9 < k := by
        rcases h with h | h
        · left
          rcases Nat.lt_or_ge k 5 with q | q
          · exact q
          · exact absurd h (nltN k 5 rfl rfl q (by omega))
        · right
          rcases Nat.lt_or_ge 9 k with q | q
          · exact q
          · exact absurd h (nltN 9 k rfl rfl q (by decide))
      refine ⟨fun g => p143 1 (Or.inr ⟨rfl, by have := eq 15 (by decide) g; omega⟩) n0 n1, fun g15 => ⟨fun g => p143 1 (Or.inr ⟨rfl, by have := eq 18 (by decide) g; omega⟩) n0 n1, fun g18 => p143 0 (Or.inl ⟨rfl, fun h => ?_⟩) n0 n1⟩⟩
      rcases h with r | r | r | r | r | r | r
      · omega
      · omega
      · omega
      · omega
      · omega
      · exact g15 (by rw [r]; rfl)
      · exact g18 (by rw [r]; rfl)
  have p76 : ¬ (p = 0 ∧ (k = 16 ∨ k = 19)) → wX11_up_76 μ (nI n) (nI a) (nI f) (nI k) (nI p) K := by
    intro n0
    have q96 : p = 1 → (k = 16 ∨ k = 19) → wX11_up_96 μ (nI n) (nI a) (nI f) K := by
      intro h1 h2
      unfold wX11_up_96
      refine m_keepY hn ⟨hw, ?_⟩
      rw [na]
      exact kY h1 h2
    unfold wX11_up_76
    refine ⟨fun g => ?_, fun g => p113 n0 (fun h => g (by rw [h.1]; rfl))⟩
    have h1 : p = 1 := ep 1 (by decide) g
    refine ⟨fun g16 => q96 h1 (Or.inl (eq 16 (by decide) g16)), fun g16 => ⟨fun g19 => q96 h1 (Or.inr (eq 19 (by decide) g19)), fun g19 => p113 n0 (fun h => ?_)⟩⟩
    rcases h.2 with r | r
    · exact g16 (by rw [r]; rfl)
    · exact g19 (by rw [r]; rfl)
  unfold wX11_up
  rw [e, nI_clamp (by omega), ha, hf, hp]
  dsimp only
  rw [na, hk]
  refine ⟨hv, hv, hw, hv, fun g => m_actsOf hk32 ⟨fun g7 => ⟨fun g23 => p76 (fun h => ?_), fun g23 => ?_⟩, fun g7 => p76 (fun h => ?_)⟩, fun g => p76 (fun h => g (by rw [h.1]; rfl))⟩
  · have := eq 23 (by decide) g23
    omega
  · have h0 : p = 0 := ep 0 (by decide) g
    have h7 := (aof7 hk32).mp g7
    have h23 : k ≠ 23 := fun r => g23 (by rw [r]; rfl)
    refine m_keepX hn ⟨hw, ?_⟩
    exact kX h0 (by omega)
  · exact g7 ((aof7 hk32).mpr (by omega))
end MU
