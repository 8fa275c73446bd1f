theorem div_m1 (x : Int32) : x / (-1) = -x := by
  apply Int32.toInt_inj.mp
  have : (-1 : Int32).toInt = -1 := by decide
  rw [Int32.toInt_div, this, Int.tdiv_neg, Int.tdiv_one, Int32.toInt_neg]
theorem ft_e {t : Int32} (h : ¬ t = 0) : ∃ e : Nat, 1 ≤ e ∧ e ≤ 8 ∧ e ≠ 7 ∧ ft t = nI e := by
  unfold ft
  rw [if_neg h]
  by_cases h1 : t = 1
  · rw [if_pos h1]; exact ⟨1, by omega, by omega, by omega, rfl⟩
  · rw [if_neg h1]; exact ⟨4, by omega, by omega, by omega, rfl⟩
theorem ff_e (t : Int32) : ∃ e : Nat, 1 ≤ e ∧ e ≤ 8 ∧ e ≠ 7 ∧ ff t = nI e := by
  unfold ff
  by_cases h1 : t = 1
  · rw [if_pos h1]; exact ⟨1, by omega, by omega, by omega, rfl⟩
  · rw [if_neg h1]; exact ⟨4, by omega, by omega, by omega, rfl⟩
theorem fth_t (v : Int64) : fth v true = 0 := rfl
theorem bool_of (p : Prop) : ∃ b : Bool, b = true ↔ p := by
  by_cases h : p
  · exact ⟨true, fun _ => h, fun _ => rfl⟩
  · exact ⟨false, fun g => absurd g (by decide), fun g => absurd g h⟩
theorem ft_0 : ft 0 = 0 := rfl
theorem f1_n {a b c : Int32} (h : ¬ a = 0) : f1 a b c = a := if_neg h
theorem f1_m {a b c : Int32} (h : a = 0) (h2 : ¬ b = 0) : f1 a b c = b := by
  unfold f1
  rw [if_pos h, if_neg h2]
theorem f1_l {a b c : Int32} (h : a = 0) (h2 : b = 0) : f1 a b c = c := by
  unfold f1
  rw [if_pos h, if_pos h2]
theorem ft_n0 {t : Int32} (h : ¬ t = 0) : ¬ ft t = 0 := by
  obtain ⟨e, h1, h2, h3, h4⟩ := ft_e h
  rw [h4]
  exact neN e 0 rfl rfl (by omega) (by omega) (by omega)
theorem ff_n0 (t : Int32) : ¬ ff t = 0 := by
  obtain ⟨e, h1, h2, h3, h4⟩ := ff_e t
  rw [h4]
  exact neN e 0 rfl rfl (by omega) (by omega) (by omega)
theorem ft_7 {t : Int32} (h : ¬ t = 0) : ¬ ft t = 7 := by
  obtain ⟨e, h1, h2, h3, h4⟩ := ft_e h
  rw [h4]
  exact neN e 7 rfl rfl (by omega) (by omega) (by omega)
theorem ff_7 (t : Int32) : ¬ ff t = 7 := by
  obtain ⟨e, h1, h2, h3, h4⟩ := ff_e t
  rw [h4]
  exact neN e 7 rfl rfl (by omega) (by omega) (by omega)
section AT
variable {so dl ln : Nat → Nat} {th us lm mk ch tl cl fl na s lim n a f kd j φ e : Nat} {σ μ : Sg} {Q : Sg → Prop} {r c : Int32}
theorem sv_fail (c3 : sI σ 10 3 = 0) (hRA : RA na σ μ) (c9 : sI σ 21 9 = nI n) (hn : n < 200) (h22 : sI σ 22 n = nI a) (ha : a < na) (hah : sI σ 4 a = nI j) (hj : sI σ 24 n = nI j) (hj100 : j < 100) (hkd : sI σ 2 (4 * a) = nI kd) (hB : Bs so dl ln th us lm mk ch tl cl fl na lim σ μ) (hbd : Bd th us lm mk ch tl cl s lim n) (hW : ∀ i, i < n → Ent so dl th na mk σ μ i) (hs : sI σ 10 1 = nI s) (hcl : Cn cl ch s (17 * n) σ μ n) (hfl : fl ≤ 20) (hC : Cc (n + 1) 0 0 (-1) σ) (hφ : 4 * (lim - s) + 2 * (n + 1) + 1 ≤ φ + 1) (m45 : sI μ 0 45 = nI s) (hu2 : us ≤ 1708)
    (hr : r = nI e) (he : 1 ≤ e) (he8 : e ≤ 8) (hof : ∀ (lx ly : Int32), (isRw (srt (sL σ 25 (3 * n))) → ∀ c, nbr (sL σ 25 (3 * n)) = nI c → c < us → lx = nbr (sL σ 7 c)) → (isRw (srt (sL σ 25 (3 * n + 1))) → ∀ c, nbr (sL σ 25 (3 * n + 1)) = nI c → c < us → ly = nbr (sL σ 7 c)) → ∀ Q' : Int32 → Sg → Prop, Q' r σ → wX2_of σ (nI kd) (sL σ 25 (3 * n)) (sL σ 25 (3 * n + 1)) (sL σ 25 (3 * n + 2)) lx ly Q')
    (hc : (if r = 7 then nbr (sL σ 25 (3 * n)) else r) = c) (hmr : MR μ (mFail (wI μ 0 26 (nI n)) fl (nI e) c (nI a))) (kk : ∀ σ' μ', MR μ μ' → Rr φ σ' μ' → Q σ') : TC σ Q := by
  refine tc_at (j := j) (r := r) (kd := kd) (us := us) c3 hRA.1 hRA.2.2.1 c9 hn h22 ha hah hj hj100 hkd hB.2.2.2.2.2.2.1.1 hu2 hof (fun q => absurd (hr.symm.trans q) (neN e 0 rfl rfl (by omega) (by omega) (by omega))) (fun q => absurd (hr.symm.trans q) (neN e 12 rfl rfl (by omega) (by omega) (by omega))) (fun _ _ Q' hQ => ?_)
  rw [hc]
  exact fin_fail (μ' := wI μ 0 26 (nI n)) hW hRA hs hcl hfl hn hC hφ h22 hB hbd Fc.rf rfl Fm.rf.top m45 rfl hr he he8 rfl hmr (fun σ' μ' h hr => hQ _ (kk σ' μ' h hr))
theorem sv_work (c3 : sI σ 10 3 = 0) (hRA : RA na σ μ) (c9 : sI σ 21 9 = nI n) (hn : n < 200) (h22 : sI σ 22 n = nI a) (ha : a < na) (hah : sI σ 4 a = nI j) (hj : sI σ 24 n = nI j) (hj100 : j < 100) (hkd : sI σ 2 (4 * a) = nI kd) (hB : Bs so dl ln th us lm mk ch tl cl fl na lim σ μ) (hu2 : us ≤ 1708)
    (hof : ∀ (lx ly : Int32), (isRw (srt (sL σ 25 (3 * n))) → ∀ c, nbr (sL σ 25 (3 * n)) = nI c → c < us → lx = nbr (sL σ 7 c)) → (isRw (srt (sL σ 25 (3 * n + 1))) → ∀ c, nbr (sL σ 25 (3 * n + 1)) = nI c → c < us → ly = nbr (sL σ 7 c)) → ∀ Q' : Int32 → Sg → Prop, Q' 0 σ → wX2_of σ (nI kd) (sL σ 25 (3 * n)) (sL σ 25 (3 * n + 1)) (sL σ 25 (3 * n + 2)) lx ly Q')
    (q : wX6_work σ (fun σ' => Q σ')) : TC σ Q :=
  tc_at (j := j) (r := 0) (kd := kd) (us := us) c3 hRA.1 hRA.2.2.1 c9 hn h22 ha hah hj hj100 hkd hB.2.2.2.2.2.2.1.1 hu2 hof (fun _ => q) (fun q => absurd q (by decide)) (fun q => absurd rfl q)
end AT
section MK
variable {μ : Sg} {K : Sg → Prop} {fl n : Nat} {a k tx nx : Int32}
theorem m_rk_x (h : sI μ 0 44 = nI fl) (hf : fl ≤ 20) (h9 : ¬ k = 9) (h0 : ¬ tx = 0) (q : K (mFail μ fl (ft tx) (ft tx) a)) : wX11_reckon μ a k tx nx K := by
  unfold wX11_reckon
  exact gF h9 (m_isWhole h hf (fun g => absurd g h0) (fun _ => gT rfl q))
theorem m_rk_y (h : sI μ 0 44 = nI fl) (hf : fl ≤ 20) (h9 : ¬ k = 9) (h0 : tx = 0) (h1 : ¬ sI μ 0 39 = 0) (q : K (mFail μ fl (ft (sI μ 0 39)) (ft (sI μ 0 39)) a)) : wX11_reckon μ a k tx nx K := by
  unfold wX11_reckon
  exact gF h9 (m_isWhole h hf (fun _ => gF ne10 (m_isWhole h hf (fun g => absurd g h1) (fun _ => gT rfl q))) (fun g => absurd h0 g))
theorem m_rk_z (h : sI μ 0 44 = nI fl) (hf : fl ≤ 20) (hk : k = 7) (h0 : tx = 0) (h1 : sI μ 0 39 = 0) (h2 : sI μ 0 40 = 0) (q : K (mFail μ fl 6 6 a)) : wX11_reckon μ a k tx nx K := by
  unfold wX11_reckon
  exact gF (by rw [hk]; decide) (m_isWhole h hf (fun _ => gF ne10 (m_isWhole h hf (fun g => gF ne10 (gT hk (gT h2 (m_failBy h hf q)))) (fun g => absurd h1 g))) (fun g => absurd h0 g))
def rk (k : Nat) (x y : Int32) : Int32 := if k = 5 then x + y else if k = 6 then x * y else if k = 7 then x / y else if x < y then 1 else 0
theorem m_rk {kd : Nat} (h : sI μ 0 44 = nI fl) (hf : fl ≤ 20) (hk : kd = 5 ∨ kd = 6 ∨ kd = 7 ∨ kd = 8) (h0 : tx = 0) (h1 : sI μ 0 39 = 0) (h2 : kd = 7 → ¬ sI μ 0 40 = 0) (q : K (mVal μ 0 (rk kd nx (sI μ 0 40)))) : wX11_reckon μ a (nI kd) tx nx K := by
  have p : wX11_reckon_100 μ (nI kd) nx (sI μ 0 40) K := by
    unfold wX11_reckon_100
    rcases hk with rfl | rfl | rfl | rfl
    · exact gF (by decide) (gT rfl q)
    · exact gF (by decide) (gF (by decide) (gT rfl q))
    · refine gT rfl ⟨fun g => ?_, fun g => ⟨h2 rfl, q⟩⟩
      have : rk 7 nx (sI μ 0 40) = -nx := by
        rw [g]
        exact div_m1 nx
      rw [this] at q
      exact q
    · refine gF (by decide) (gF (by decide) (gF (by decide) ⟨fun g => ?_, fun g => ?_⟩))
      · have : rk 8 nx (sI μ 0 40) = 1 := if_pos g
        rw [this] at q
        exact q
      · have : rk 8 nx (sI μ 0 40) = 0 := if_neg g
        rw [this] at q
        exact q
  unfold wX11_reckon
  refine gF (by rcases hk with rfl | rfl | rfl | rfl <;> decide) (m_isWhole h hf (fun _ => gF ne10 (m_isWhole h hf (fun _ => gF ne10 ⟨fun g => gF (h2 ?_) p, fun _ => p⟩) (fun g => absurd h1 g))) (fun g => absurd h0 g))
  rcases hk with rfl | rfl | rfl | rfl
  · exact absurd g (by decide)
  · exact absurd g (by decide)
  · rfl
  · exact absurd g (by decide)
theorem m_rk_9 (q1 : (tx = sI μ 0 39 ∧ (tx = 1 ∨ nx = sI μ 0 40)) → K (mVal μ 0 1)) (q0 : ¬ (tx = sI μ 0 39 ∧ (tx = 1 ∨ nx = sI μ 0 40)) → K (mVal μ 0 0)) : wX11_reckon μ a 9 tx nx K := by
  unfold wX11_reckon wX11_reckon_28 wX11_reckon_32 wX11_reckon_33
  refine gT rfl ⟨fun g => ⟨fun g1 => gF ne10 (q1 ⟨g, Or.inl g1⟩), fun g1 => ⟨fun g2 => gF ne10 (q1 ⟨g, Or.inr g2⟩), fun g2 => gT rfl (q0 ?_)⟩⟩, fun g => gT rfl (q0 (fun h => g h.1))⟩
  rintro ⟨-, h | h⟩
  · exact g1 h
  · exact g2 h
end MK
