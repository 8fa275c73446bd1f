/-! an act is made -/
def tm (k p : Nat) : Int32 := tbM (3 * k + p)
def isA (na : Nat) (x : Int32) : Prop := ∃ a : Nat, a < na ∧ x = nI a
def UK (na : Nat) (m x : Int32) : Prop := (m = 1 ∨ m = 2) ∧ ¬ isA na x
def OU (m x : Int32) : Prop := 2 < m ∧ (x < 0 ∨ tbG m.toNatClampNeg < x)
section AC
variable {σ μ : Sg} {na k : Nat} {x m a b c : Int32} {Q : Int32 → Sg → Prop}
theorem has_no (hz : sI σ 1 3 = nI na) (hna : na ≤ 60) (h : ¬ isA na x) (q : Q 0 σ) : wX0_has σ x Q := by
  rcases casesN x (n := na) (by omega) with g | g | g
  · exact c_hasNot hz (Or.inl g) q
  · exact c_hasNot hz (Or.inr g) q
  · exact absurd g h
theorem c_unk (hz : sI σ 1 3 = nI na) (hna : na ≤ 60) (kt : UK na m x → Q 1 σ) (kf : ¬ UK na m x → Q 0 σ) : wX0_isUnknown σ m x Q := by
  have p : (m = 1 ∨ m = 2) → wX0_isUnknown_10 σ x Q := by
    intro hm
    unfold wX0_isUnknown_10
    by_cases h : isA na x
    · obtain ⟨a, ha, rfl⟩ := h
      exact c_has hz hna ha (gF ne10 (kf (fun g => g.2 ⟨a, ha, rfl⟩)))
    · exact has_no hz hna h (gT rfl (kt ⟨hm, h⟩))
  unfold wX0_isUnknown
  refine ⟨fun g => p (Or.inl g), fun g => ⟨fun g2 => p (Or.inr g2), fun g2 => kf (fun h => ?_)⟩⟩
  rcases h.1 with h | h
  · exact g h
  · exact g2 h
theorem c_outs (hm : vp_in m 7) (kt : OU m x → Q 1 σ) (kf : ¬ OU m x → Q 0 σ) : wX0_isOutside σ m x Q := by
  unfold wX0_isOutside wX0_isOutside_18
  exact ⟨fun g => ⟨fun g2 => kt ⟨g, Or.inl g2⟩, fun g2 => ⟨hm, fun g3 => kt ⟨g, Or.inr g3⟩, fun g3 => kf (fun h => by rcases h.2 with h | h; exact g2 h; exact g3 h)⟩⟩, fun g => kf (fun h => g h.1)⟩
theorem tm_in (hk : k < 32) : ∀ p, p < 3 → vp_in (tm k p) 7 := by
  have : ∀ k, k < 32 → ∀ p, p < 3 → ¬ (tm k p < 0 ∨ 7 ≤ (tm k p).toNatClampNeg) := by decide
  exact this k hk
theorem c_refusal (hz : sI σ 1 3 = nI na) (hna : na ≤ 60) (hk : k < 32) (kU : (UK na (tm k 0) a ∨ UK na (tm k 1) b ∨ UK na (tm k 2) c) → Q (-101) σ) (kO : ¬ (UK na (tm k 0) a ∨ UK na (tm k 1) b ∨ UK na (tm k 2) c) → (OU (tm k 0) a ∨ OU (tm k 1) b ∨ OU (tm k 2) c) → Q (-102) σ) (kR : ¬ (UK na (tm k 0) a ∨ UK na (tm k 1) b ∨ UK na (tm k 2) c) → ¬ (OU (tm k 0) a ∨ OU (tm k 1) b ∨ OU (tm k 2) c) → na = 60 → Q (-104) σ) (k0 : ¬ (UK na (tm k 0) a ∨ UK na (tm k 1) b ∨ UK na (tm k 2) c) → ¬ (OU (tm k 0) a ∨ OU (tm k 1) b ∨ OU (tm k 2) c) → na < 60 → Q 0 σ) : wX0_refusalOf σ (nI k) a b c Q := by
  have e0 : (3 : Int32) * nI k = nI (3 * k) := mulN 3 k rfl rfl
  have e1 : nI (3 * k) + (1 : Int32) = nI (3 * k + 1) := addN _ 1 rfl rfl
  have e2 : nI (3 * k) + (2 : Int32) = nI (3 * k + 2) := addN _ 2 rfl rfl
  have v0 : vp_in (nI (3 * k)) 96 := vp_in_nI (by omega) (by decide)
  have v1 : vp_in (nI (3 * k + 1)) 96 := vp_in_nI (by omega) (by decide)
  have v2 : vp_in (nI (3 * k + 2)) 96 := vp_in_nI (by omega) (by decide)
  unfold wX0_refusalOf
  rw [e0, e1, e2, nI_clamp (by omega), nI_clamp (by omega), nI_clamp (by omega)]
  refine gF (nn0 k rfl (by omega)) (gF (nltN 31 k rfl rfl (by omega) (by omega)) ⟨v0, ?_⟩)
  refine c_unk (m := tm k 0) hz hna (fun u0 => gF ne10 (kU (Or.inl u0))) (fun u0 => gT rfl ⟨v1, ?_⟩)
  refine c_unk (m := tm k 1) hz hna (fun u1 => gF ne10 (kU (Or.inr (Or.inl u1)))) (fun u1 => gT rfl ⟨v2, ?_⟩)
  refine c_unk (m := tm k 2) hz hna (fun u2 => gF ne10 (kU (Or.inr (Or.inr u2)))) (fun u2 => gT rfl ⟨v0, ?_⟩)
  have nu : ¬ (UK na (tm k 0) a ∨ UK na (tm k 1) b ∨ UK na (tm k 2) c) := fun h => by
    rcases h with h | h | h
    · exact u0 h
    · exact u1 h
    · exact u2 h
  refine c_outs (m := tm k 0) (tm_in hk 0 (by omega)) (fun o0 => gF ne10 (kO nu (Or.inl o0))) (fun o0 => gT rfl ⟨v1, ?_⟩)
  refine c_outs (m := tm k 1) (tm_in hk 1 (by omega)) (fun o1 => gF ne10 (kO nu (Or.inr (Or.inl o1)))) (fun o1 => gT rfl ⟨v2, ?_⟩)
  refine c_outs (m := tm k 2) (tm_in hk 2 (by omega)) (fun o2 => gF ne10 (kO nu (Or.inr (Or.inr o2)))) (fun o2 => gT rfl ?_)
  have no : ¬ (OU (tm k 0) a ∨ OU (tm k 1) b ∨ OU (tm k 2) c) := fun h => by
    rcases h with h | h | h
    · exact o0 h
    · exact o1 h
    · exact o2 h
  rw [hz]
  by_cases h60 : na < 60
  · exact gT (ltN na 60 rfl rfl h60 (by decide)) (k0 nu no h60)
  · exact gF (nltN na 60 rfl rfl (by omega) (by omega)) (kR nu no (by omega))
end AC
def bit0 (k : Nat) : Bool := decide (aof k % 2 = 1)
section MA
variable {μ : Sg} {na k : Nat} {a b c : Int32} {K : Int32 → Sg → Prop}
theorem m_na {x : Int32} (hz : sI μ 0 0 = nI na) (hna : na ≤ 60) (k0 : isA na x → K 0 μ) (k1 : ¬ isA na x → K 1 μ) : wX11_noAct μ x K := m_noAct hz hna (fun a ha h => k0 ⟨a, ha, h⟩) k1
def mAdd (μ : Sg) (na : Nat) (k a b c : Int32) : Sg := wI (wI (wI (wI (wI μ 1 na k) 2 na a) 3 na b) 4 na c) 0 0 (nI (na + 1))
def inb (x : Int32) (h : Int32) : Prop := ¬ x < 0 ∧ ¬ h < x
def GD (k : Nat) (a b : Int32) : Prop := (k = 1 → inb a 7) ∧ (k = 4 → inb b 7) ∧ (k = 30 ∨ k = 31 → inb a 7) ∧ (k = 21 → inb b 8) ∧ (k = 25 → inb a 59)
theorem inb_or {x h : Int32} (g : x < 0 ∨ h < x) : ¬ inb x h := fun q => by
  rcases g with g | g
  · exact q.1 g
  · exact q.2 g
theorem m_good (hz : sI μ 0 0 = nI na) (hna : na ≤ 60) (hk : k < 32) (kO : ¬ GD k a b → K (-102) μ) (kR : GD k a b → na = 60 → K (-104) μ) (k0 : GD k a b → na < 60 → K (nI na) (mAdd μ na (nI k) a b c)) : wX11_act_78 μ (nI k) a b c K := by
  have ne : ∀ z : Nat, z < 100 → k ≠ z → ¬ nI k = nI z := fun z hz h => neN k z rfl rfl h (by omega) (by omega)
  have eq : ∀ z : Nat, z < 100 → nI k = nI z → k = z := fun z hz h => eqN h (by omega) (by omega)
  have bad : ¬ GD k a b → wX11_act_166 μ (nI k) a b c K := fun h => by
    unfold wX11_act_166 wX11_act_167
    exact gT rfl (kO h)
  have good : GD k a b → wX11_act_162 μ (nI k) a b c K := fun h => by
    unfold wX11_act_162 wX11_act_167
    refine gF ne10 ?_
    rw [hz]
    by_cases h60 : na = 60
    · exact gT (by rw [h60]; rfl) (kR h h60)
    · refine gF (neN na 60 rfl rfl h60 (by omega) (by decide)) ?_
      rw [nI_clamp (by omega), nI_1]
      have e : nI (na + 1) - (1 : Int32) = nI na := subN (na + 1) 1 rfl rfl (by omega)
      rw [e]
      have hv : vp_in (nI na) 60 := vp_in_nI (by omega) (by decide)
      exact ⟨hv, hv, hv, hv, k0 h (by omega)⟩
  have p146 : (k = 1 → inb a 7) → (k = 4 → inb b 7) → (k = 30 ∨ k = 31 → inb a 7) → (k = 21 → inb b 8) → wX11_act_146 μ (nI k) a b c K := by
    intro g1 g4 g30 g21
    unfold wX11_act_146
    refine ⟨fun h => m_in (fun h1 h2 => gF ne10 (good ⟨g1, g4, g30, g21, fun _ => ⟨h1, h2⟩⟩)) (fun h1 => gT rfl (bad (fun g => inb_or h1 (g.2.2.2.2 (eq 25 (by decide) h))))), fun h => good ⟨g1, g4, g30, g21, fun g => absurd (by rw [g]; rfl) h⟩⟩
  have p130 : (k = 1 → inb a 7) → (k = 4 → inb b 7) → (k = 30 ∨ k = 31 → inb a 7) → wX11_act_130 μ (nI k) a b c K := by
    intro g1 g4 g30
    unfold wX11_act_130
    refine ⟨fun h => m_in (fun h1 h2 => gF ne10 (p146 g1 g4 g30 (fun _ => ⟨h1, h2⟩))) (fun h1 => gT rfl (bad (fun g => inb_or h1 (g.2.2.2.1 (eq 21 (by decide) h))))), fun h => p146 g1 g4 g30 (fun g => absurd (by rw [g]; rfl) h)⟩
  have p108 : (k = 1 → inb a 7) → (k = 4 → inb b 7) → wX11_act_108 μ (nI k) a b c K := by
    intro g1 g4
    have p120 : (k = 30 ∨ k = 31) → wX11_act_120 μ (nI k) a b c K := by
      intro hk
      unfold wX11_act_120
      exact m_in (fun h1 h2 => gF ne10 (p130 g1 g4 (fun _ => ⟨h1, h2⟩))) (fun h1 => gT rfl (bad (fun g => inb_or h1 (g.2.2.1 hk))))
    unfold wX11_act_108
    refine ⟨fun h => p120 (Or.inl (eq 30 (by decide) h)), fun h => ⟨fun h2 => p120 (Or.inr (eq 31 (by decide) h2)), fun h2 => p130 g1 g4 (fun g => ?_)⟩⟩
    rcases g with g | g
    · exact absurd (by rw [g]; rfl) h
    · exact absurd (by rw [g]; rfl) h2
  have p93 : (k = 1 → inb a 7) → wX11_act_93 μ (nI k) a b c K := by
    intro g1
    unfold wX11_act_93
    refine ⟨fun h => m_in (fun h1 h2 => gF ne10 (p108 g1 (fun _ => ⟨h1, h2⟩))) (fun h1 => gT rfl (bad (fun g => inb_or h1 (g.2.1 (eq 4 (by decide) h))))), fun h => p108 g1 (fun g => absurd (by rw [g]; rfl) h)⟩
  unfold wX11_act_78
  exact ⟨fun h => m_in (fun h1 h2 => gF ne10 (p93 (fun _ => ⟨h1, h2⟩))) (fun h1 => gT rfl (bad (fun g => inb_or h1 (g.1 (eq 1 (by decide) h))))), fun h => p93 (fun g => absurd (by rw [g]; rfl) h)⟩
theorem aof_b (hk : k < 32) : ((nI (aof k) - nI (aof k) / (2 : Int32) * (2 : Int32)) = (1 : Int32) ↔ (tm k 0 = 1 ∨ tm k 0 = 2)) ∧ (((nI (aof k) / (2 : Int32)) - (nI (aof k) / (2 : Int32)) / (2 : Int32) * (2 : Int32)) = (1 : Int32) ↔ (tm k 1 = 1 ∨ tm k 1 = 2)) ∧ ((nI (aof k) / (4 : Int32)) = (1 : Int32) ↔ (tm k 2 = 1 ∨ tm k 2 = 2)) := by
  have : ∀ k, k < 32 → ((nI (aof k) - nI (aof k) / (2 : Int32) * (2 : Int32)) = (1 : Int32) ↔ (tm k 0 = 1 ∨ tm k 0 = 2)) ∧ (((nI (aof k) / (2 : Int32)) - (nI (aof k) / (2 : Int32)) / (2 : Int32) * (2 : Int32)) = (1 : Int32) ↔ (tm k 1 = 1 ∨ tm k 1 = 2)) ∧ ((nI (aof k) / (4 : Int32)) = (1 : Int32) ↔ (tm k 2 = 1 ∨ tm k 2 = 2)) := by decide
  exact this k hk
theorem m_act (hz : sI μ 0 0 = nI na) (hna : na ≤ 60) (hk : k < 32) (kU : (UK na (tm k 0) a ∨ UK na (tm k 1) b ∨ UK na (tm k 2) c) → K (-101) (wI μ 0 55 0)) (kO : ¬ (UK na (tm k 0) a ∨ UK na (tm k 1) b ∨ UK na (tm k 2) c) → ¬ GD k a b → K (-102) (wI μ 0 55 0)) (kR : ¬ (UK na (tm k 0) a ∨ UK na (tm k 1) b ∨ UK na (tm k 2) c) → GD k a b → na = 60 → K (-104) (wI μ 0 55 0)) (k0 : ¬ (UK na (tm k 0) a ∨ UK na (tm k 1) b ∨ UK na (tm k 2) c) → GD k a b → na < 60 → K (nI na) (mAdd (wI μ 0 55 0) na (nI k) a b c)) : wX11_act μ (nI k) a b c K := by
  obtain ⟨b0, b1, b2⟩ := aof_b hk
  have hz' : sI (wI μ 0 55 0) 0 0 = nI na := hz
  unfold wX11_act
  refine m_in (fun _ _ => gF ne10 (m_actsOf hk ?_)) (fun g => ?_)
  · have p58 : ¬ UK na (tm k 0) a → ¬ UK na (tm k 1) b → wX11_act_58 (wI μ 0 55 0) (nI k) a b c (nI (aof k)) K := by
      intro u0 u1
      have g78 : ¬ UK na (tm k 2) c → wX11_act_78 (wI μ 0 55 0) (nI k) a b c K := by
        intro u2
        have nu : ¬ (UK na (tm k 0) a ∨ UK na (tm k 1) b ∨ UK na (tm k 2) c) := fun h => by
          rcases h with h | h | h
          · exact u0 h
          · exact u1 h
          · exact u2 h
        exact m_good hz' hna hk (kO nu) (kR nu) (k0 nu)
      unfold wX11_act_58
      exact ⟨fun g => m_na hz' hna (fun h => gT rfl (g78 (fun u => u.2 h))) (fun h => gF ne10 (kU (Or.inr (Or.inr ⟨b2.mp g, h⟩)))), fun g => g78 (fun u => g (b2.mpr u.1))⟩
    have p40 : ¬ UK na (tm k 0) a → wX11_act_40 (wI μ 0 55 0) (nI k) a b c (nI (aof k)) K := by
      intro u0
      unfold wX11_act_40
      exact ⟨fun g => m_na hz' hna (fun h => gT rfl (p58 u0 (fun u => u.2 h))) (fun h => gF ne10 (kU (Or.inr (Or.inl ⟨b1.mp g, h⟩)))), fun g => p58 u0 (fun u => g (b1.mpr u.1))⟩
    exact ⟨fun g => m_na hz' hna (fun h => gT rfl (p40 (fun u => u.2 h))) (fun h => gF ne10 (kU (Or.inl ⟨b0.mp g, h⟩))), fun g => p40 (fun u => g (b0.mpr u.1))⟩
  · rcases g with g | g
    · exact absurd g (nn0 k rfl (by omega))
    · exact absurd g (nltN 31 k rfl rfl (by omega) (by omega))
theorem ou_gd (hk : k < 32) : (OU (tm k 0) a ∨ OU (tm k 1) b ∨ OU (tm k 2) c) ↔ ¬ GD k a b := by
  have t0 : ∀ k, k < 32 → (((2 : Int32) < tm k 0 ∧ tbG (tm k 0).toNatClampNeg = 7 ∧ (k = 1 ∨ k = 30 ∨ k = 31)) ∨ ((2 : Int32) < tm k 0 ∧ tbG (tm k 0).toNatClampNeg = 59 ∧ k = 25) ∨ (¬ (2 : Int32) < tm k 0 ∧ k ≠ 1 ∧ k ≠ 30 ∧ k ≠ 31 ∧ k ≠ 25)) := by decide
  have t1 : ∀ k, k < 32 → (((2 : Int32) < tm k 1 ∧ tbG (tm k 1).toNatClampNeg = 7 ∧ k = 4) ∨ ((2 : Int32) < tm k 1 ∧ tbG (tm k 1).toNatClampNeg = 8 ∧ k = 21) ∨ (¬ (2 : Int32) < tm k 1 ∧ k ≠ 4 ∧ k ≠ 21)) := by decide
  have t2 : ∀ k, k < 32 → ¬ (2 : Int32) < tm k 2 := by decide
  have io : ∀ (x h : Int32), ¬ inb x h → x < 0 ∨ h < x := fun x h g => by
    by_cases g1 : x < 0
    · exact Or.inl g1
    · exact Or.inr (Classical.byContradiction (fun g2 => g ⟨g1, g2⟩))
  constructor
  · rintro (⟨h1, h2⟩ | ⟨h1, h2⟩ | h) g
    · rcases t0 k hk with ⟨-, e, hk1⟩ | ⟨-, e, hk1⟩ | ⟨e, -⟩
      · rw [e] at h2
        rcases hk1 with r | r | r
        · exact inb_or h2 (g.1 r)
        · exact inb_or h2 (g.2.2.1 (Or.inl r))
        · exact inb_or h2 (g.2.2.1 (Or.inr r))
      · rw [e] at h2
        exact inb_or h2 (g.2.2.2.2 hk1)
      · exact e h1
    · rcases t1 k hk with ⟨-, e, hk1⟩ | ⟨-, e, hk1⟩ | ⟨e, -⟩
      · rw [e] at h2
        exact inb_or h2 (g.2.1 hk1)
      · rw [e] at h2
        exact inb_or h2 (g.2.2.2.1 hk1)
      · exact e h1
    · exact t2 k hk h.1
  · intro g
    refine Classical.byContradiction (fun n => g ⟨fun h => ?_, fun h => ?_, fun h => ?_, fun h => ?_, fun h => ?_⟩)
    · rcases t0 k hk with ⟨e1, e, -⟩ | ⟨-, -, hk1⟩ | ⟨-, e, -⟩
      · exact Classical.byContradiction (fun q => n (Or.inl ⟨e1, by rw [e]; exact io a 7 q⟩))
      · omega
      · omega
    · rcases t1 k hk with ⟨e1, e, -⟩ | ⟨-, -, hk1⟩ | ⟨-, e, -⟩
      · exact Classical.byContradiction (fun q => n (Or.inr (Or.inl ⟨e1, by rw [e]; exact io b 7 q⟩)))
      · omega
      · omega
    · rcases t0 k hk with ⟨e1, e, -⟩ | ⟨-, -, hk1⟩ | ⟨-, e1, e2, e3, -⟩
      · exact Classical.byContradiction (fun q => n (Or.inl ⟨e1, by rw [e]; exact io a 7 q⟩))
      · omega
      · omega
    · rcases t1 k hk with ⟨-, -, hk1⟩ | ⟨e1, e, -⟩ | ⟨-, -, e⟩
      · omega
      · exact Classical.byContradiction (fun q => n (Or.inr (Or.inl ⟨e1, by rw [e]; exact io b 8 q⟩)))
      · omega
    · rcases t0 k hk with ⟨-, -, hk1⟩ | ⟨e1, e, -⟩ | ⟨-, -, -, -, e⟩
      · omega
      · exact Classical.byContradiction (fun q => n (Or.inl ⟨e1, by rw [e]; exact io a 59 q⟩))
      · omega
end MA
