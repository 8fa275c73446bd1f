section WP
variable {μ : Sg} {K : Sg → Prop} {fl n k i L : Nat} {a : Int32}
def okZ (tx tz : Int32) : Prop := (isRL tx ∧ isLN tz) ∨ (¬ isRL tx ∧ tz = 0)
theorem m_wp_y (h : sI μ 0 44 = nI fl) (hf : fl ≤ 20) (hv : vp_in (nI n) 220) (en : (nI n).toNatClampNeg = n) (h0 : ¬ sI μ 26 n = 0) (q : K (mFail μ fl (ft (sI μ 26 n)) (ft (sI μ 26 n)) a)) : wX11_writePlace μ a (nI n) K := by
  have p : ∀ t s0 : Int32, wX11_writePlace_22 μ a (nI n) t s0 K := by
    intro t s0
    unfold wX11_writePlace_22
    rw [en]
    exact ⟨hv, m_isWhole h hf (fun g => absurd g h0) (fun _ => gT rfl q)⟩
  unfold wX11_writePlace wX11_writePlace_17
  exact ⟨hv, fun _ => p _ _, fun _ => ⟨fun _ => p _ _, fun _ => p _ _⟩⟩
theorem m_wp_go (hv : vp_in (nI n) 220) (en : (nI n).toNatClampNeg = n) (qt : isRL (sI μ 24 n) → wX11_writePlace_22 μ a (nI n) (sI μ 24 n) 1 K) (qf : ¬ isRL (sI μ 24 n) → wX11_writePlace_22 μ a (nI n) (sI μ 24 n) 0 K) : wX11_writePlace μ a (nI n) K := by
  unfold wX11_writePlace wX11_writePlace_17
  rw [en]
  exact ⟨hv, fun g => qt (Or.inl g), fun g => ⟨fun g2 => qt (Or.inr g2), fun g2 => qf (fun h => by rcases h with h | h; exact g h; exact g2 h)⟩⟩
theorem m_wp_c (h : sI μ 0 44 = nI fl) (hf : fl ≤ 20) (hv : vp_in (nI n) 220) (en : (nI n).toNatClampNeg = n) (h0 : sI μ 26 n = 0) (hl : isRL (sI μ 24 n)) (hz : ¬ isLN (sI μ 0 39)) (q : K (mFail μ fl 4 4 a)) : wX11_writePlace μ a (nI n) K := by
  refine m_wp_go hv en (fun _ => ?_) (fun g => absurd hl g)
  unfold wX11_writePlace_22
  rw [en]
  unfold isLN at hz
  refine ⟨hv, m_isWhole h hf (fun _ => gF ne10 (gF ne10 (gF (fun g => hz (Or.inr (Or.inr g))) (gF (fun g => hz (Or.inl g)) (gF (fun g => hz (Or.inr (Or.inl g))) (m_failBy h hf q)))))) (fun g => absurd h0 g)⟩
theorem m_wp_z (h : sI μ 0 44 = nI fl) (hf : fl ≤ 20) (hv : vp_in (nI n) 220) (en : (nI n).toNatClampNeg = n) (h0 : sI μ 26 n = 0) (hl : ¬ isRL (sI μ 24 n)) (hz : ¬ sI μ 0 39 = 0) (q : K (mFail μ fl (ft (sI μ 0 39)) (ft (sI μ 0 39)) a)) : wX11_writePlace μ a (nI n) K := by
  refine m_wp_go hv en (fun g => absurd g hl) (fun _ => ?_)
  unfold wX11_writePlace_22
  rw [en]
  refine ⟨hv, m_isWhole h hf (fun _ => gF ne10 (gT rfl ?_)) (fun g => absurd h0 g)⟩
  unfold wX11_writePlace_76
  exact gT rfl (m_isWhole h hf (fun g => absurd g hz) (fun _ => gT rfl q))
theorem m_wp_93 (h : sI μ 0 44 = nI fl) (hf : fl ≤ 20) (hv : vp_in (nI n) 220) (en : (nI n).toNatClampNeg = n) (h0 : sI μ 26 n = 0) (hz : okZ (sI μ 24 n) (sI μ 0 39)) (q : wX11_writePlace_93 μ a (nI n) (sI μ 24 n) K) : wX11_writePlace μ a (nI n) K := by
  refine m_wp_go hv en (fun hl => ?_) (fun hl => ?_)
  · have hz : isLN (sI μ 0 39) := by
      rcases hz with ⟨-, g⟩ | ⟨g, -⟩
      · exact g
      · exact absurd hl g
    unfold wX11_writePlace_22
    rw [en]
    refine ⟨hv, m_isWhole h hf (fun _ => gF ne10 (gF ne10 ?_)) (fun g => absurd h0 g)⟩
    have p : wX11_writePlace_76 μ a (nI n) (sI μ 24 n) 1 K := by
      unfold wX11_writePlace_76
      exact gF ne10 q
    refine ⟨fun _ => p, fun g1 => ⟨fun _ => p, fun g2 => ⟨fun _ => p, fun g3 => ?_⟩⟩⟩
    rcases hz with g | g | g
    · exact absurd g g2
    · exact absurd g g3
    · exact absurd g g1
  · have hz : sI μ 0 39 = 0 := by
      rcases hz with ⟨g, -⟩ | ⟨-, g⟩
      · exact absurd g hl
      · exact g
    unfold wX11_writePlace_22
    rw [en]
    refine ⟨hv, m_isWhole h hf (fun _ => gF ne10 (gT rfl ?_)) (fun g => absurd h0 g)⟩
    unfold wX11_writePlace_76
    exact gT rfl (m_isWhole h hf (fun _ => gF ne10 q) (fun g => absurd hz g))
theorem m_w93_r {tx : Int32} (h : sI μ 0 44 = nI fl) (hf : fl ≤ 20) (hr : ¬ isRw tx) (q : K (mFail μ fl (ff tx) (ff tx) a)) : wX11_writePlace_93 μ a (nI n) tx K := by
  unfold wX11_writePlace_93
  exact m_isRowHere h hf (fun g => absurd g hr) (fun _ => gT rfl q)
theorem m_w93_i {tx : Int32} (h : sI μ 0 44 = nI fl) (hf : fl ≤ 20) (hv : vp_in (nI n) 220) (en : (nI n).toNatClampNeg = n) (hr : isRw tx) (hx : sI μ 25 n = nI k) (hk : k < 220) (hL : sI μ 5 k = nI L) (hL2 : L ≤ 16) (hi : ¬ ∃ i, i < L ∧ sI μ 27 n = nI i) (q : K (mFail μ fl 2 2 a)) : wX11_writePlace_93 μ a (nI n) tx K := by
  unfold wX11_writePlace_93
  refine m_isRowHere h hf (fun _ => gF ne10 ⟨hv, hv, ?_⟩) (fun g => absurd hr g)
  rw [en, hx, nI_clamp (by omega), hL]
  exact ⟨vp_in_nI hk (by decide), m_in (fun g1 g2 => absurd ((in_sub (by omega)).mp ⟨g1, g2⟩) hi) (fun _ => gT rfl (m_failBy h hf q))⟩
theorem m_w93_s {tx : Int32} (h : sI μ 0 44 = nI fl) (hf : fl ≤ 20) (hv : vp_in (nI n) 220) (en : (nI n).toNatClampNeg = n) (hr : isRw tx) (hx : sI μ 25 n = nI k) (hk : k < 220) (hL : sI μ 5 k = nI L) (hL2 : L ≤ 16) (hi : i < L) (hi2 : sI μ 27 n = nI i) (h4 : tx = 4) (h5 : sI μ 0 39 = 5) (q : K (mFail μ fl 5 5 a)) : wX11_writePlace_93 μ a (nI n) tx K := by
  unfold wX11_writePlace_93
  refine m_isRowHere h hf (fun _ => gF ne10 ⟨hv, hv, ?_⟩) (fun g => absurd hr g)
  rw [en, hx, nI_clamp (by omega), hL, hi2]
  have hp : (¬ nI i < 0 ∧ ¬ (nI L - 1) < nI i) := (in_sub (by omega)).mpr ⟨i, hi, rfl⟩
  refine ⟨vp_in_nI hk (by decide), m_in (fun g1 g2 => gF ne10 (gT h4 (gT h5 (m_failBy h hf q)))) (fun g => ?_)⟩
  rcases g with g | g
  · exact absurd g hp.1
  · exact absurd g hp.2
theorem m_w93_w {tx : Int32} {g : Nat} (h : sI μ 0 44 = nI fl) (hf : fl ≤ 20) (hv : vp_in (nI n) 220) (en : (nI n).toNatClampNeg = n) (hr : isRw tx) (hx : sI μ 25 n = nI k) (hk : k < 220) (hL : sI μ 5 k = nI L) (hL2 : L ≤ 16) (hi : i < L) (hi2 : sI μ 27 n = nI i) (h45 : ¬ (tx = 4 ∧ sI μ 0 39 = 5)) (hg : sI μ 0 20 = nI g) (hg2 : g < 3600) (q : K (mWrite μ g (8 + 16 * k + i) (sI μ 0 39) (sI μ 0 40))) : wX11_writePlace_93 μ a (nI n) tx K := by
  have e : ((8 : Int32) + ((16 : Int32) * nI k)) + nI i = nI (8 + 16 * k + i) := addN (8 + 16 * k) i (addN 8 (16 * k) rfl (mulN 16 k rfl rfl)) rfl
  have p : wX11_writePlace_164 μ (nI n) (nI k) K := by
    unfold wX11_writePlace_164
    rw [en, hi2]
    exact ⟨hv, m_write e (by omega) hg hg2 q⟩
  unfold wX11_writePlace_93
  refine m_isRowHere h hf (fun _ => gF ne10 ⟨hv, hv, ?_⟩) (fun g => absurd hr g)
  rw [en, hx, nI_clamp (by omega), hL, hi2]
  have hp : (¬ nI i < 0 ∧ ¬ (nI L - 1) < nI i) := (in_sub (by omega)).mpr ⟨i, hi, rfl⟩
  refine ⟨vp_in_nI hk (by decide), m_in (fun g1 g2 => gF ne10 ⟨fun g4 => ⟨fun g5 => absurd ⟨g4, g5⟩ h45, fun _ => p⟩, fun _ => p⟩) (fun g => ?_)⟩
  rcases g with g | g
  · exact absurd g hp.1
  · exact absurd g hp.2
end WP
section O19
variable {σ : Sg} {x y z : Int64} {lx ly : Int32} {Q : Int32 → Sg → Prop}
theorem of_19 (qw : ¬ fw z = 0 → Q (fw z) σ) (qn : fw z = 0 → (x = pk 1 0 ∨ y = pk 1 0) → Q 1 σ) (qs : fw z = 0 → ¬ x = pk 1 0 → ¬ y = pk 1 0 → ¬ (isRw (srt x) ∧ isRw (srt y) ∧ (isRL (srt x) ↔ isRL (srt y))) → Q 5 σ) (qi : fw z = 0 → isRw (srt x) → isRw (srt y) → (isRL (srt x) ↔ isRL (srt y)) → (nbr z < 0 ∨ (if ly < lx then ly else lx) < nbr z) → Q 2 σ) (qo : fw z = 0 → isRw (srt x) → isRw (srt y) → (isRL (srt x) ↔ isRL (srt y)) → ¬ nbr z < 0 → ¬ (if ly < lx then ly else lx) < nbr z → Q 0 σ) : wX2_of σ (nI 19) x y z lx ly Q := by
  unfold wX2_of
  repeat refine gS (by decide) ?_
  refine ⟨fun _ => ?_, ?_⟩
  · unfold wX2_ofCopy wX2_ofCopy_77
    rw [pk_none]
    refine c_ofWhole ⟨fun hw => ⟨fun g => qn hw (Or.inl (cmp0.mp g)), fun g => ⟨fun g2 => qn hw (Or.inr (cmp0.mp g2)), fun g2 => ?_⟩⟩, fun hw => c_ofWhole (qw hw)⟩
    have nx : ¬ x = pk 1 0 := fun h => g (cmp0.mpr h)
    have ny : ¬ y = pk 1 0 := fun h => g2 (cmp0.mpr h)
    refine c_isRow (fun rx => gF ne10 (c_isRow (fun ry => gF ne10 ?_) (fun ry => gT rfl (qs hw nx ny (fun h => ry h.2.1))))) (fun rx => gT rfl (qs hw nx ny (fun h => rx h.1)))
    have go : (isRL (srt x) ↔ isRL (srt y)) → wX9_number σ z (fun r12 σ11 => (r12 < 0 → Q 2 σ11) ∧ (¬ r12 < 0 → wX9_number σ11 z (fun r14 σ13 => ((if ly < lx then ly else lx) < r14 → Q 2 σ13) ∧ (¬ (if ly < lx then ly else lx) < r14 → Q 0 σ13)))) := fun hl => c_number ⟨fun g => qi hw rx ry hl (Or.inl g), fun g => c_number ⟨fun g2 => qi hw rx ry hl (Or.inr g2), fun g2 => qo hw rx ry hl g g2⟩⟩
    refine c_isRowForLinks (fun lx' => c_isRowForLinks (fun ly' => gT rfl (go ⟨fun _ => ly', fun _ => lx'⟩)) (fun ly' => gF (by decide) (qs hw nx ny (fun h => ly' (h.2.2.mp lx'))))) (fun lx' => c_isRowForLinks (fun ly' => gF (by decide) (qs hw nx ny (fun h => lx' (h.2.2.mpr ly')))) (fun ly' => gT rfl (go ⟨fun h => absurd h lx', fun h => absurd h ly'⟩)))
  · repeat refine gS (by decide) ?_
    intros; contradiction
end O19
section CP
variable {μ : Sg} {K : Sg → Prop} {fl n : Nat} {a : Int32}
theorem m_cp (h : sI μ 0 44 = nI fl) (hf : fl ≤ 20) (hv : vp_in (nI n) 220) (en : (nI n).toNatClampNeg = n) (qw : ¬ sI μ 0 39 = 0 → K (mFail μ fl (ft (sI μ 0 39)) (ft (sI μ 0 39)) a)) (qn : sI μ 0 39 = 0 → (sI μ 24 n = 1 ∨ sI μ 26 n = 1) → K (mFail μ fl 1 1 a)) (qs : sI μ 0 39 = 0 → ¬ sI μ 24 n = 1 → ¬ sI μ 26 n = 1 → ¬ (isRw (sI μ 24 n) ∧ isRw (sI μ 26 n) ∧ (sI μ 24 n = 2 ↔ sI μ 26 n = 2)) → K (mFail μ fl 5 5 a)) (qr : sI μ 0 39 = 0 → isRw (sI μ 24 n) → isRw (sI μ 26 n) → (sI μ 24 n = 2 ↔ sI μ 26 n = 2) → ∀ s0 : Int32, wX11_copyPlaces_82 μ a (nI n) (sI μ 26 n) s0 s0 K) : wX11_copyPlaces μ a (nI n) K := by
  unfold wX11_copyPlaces
  rw [en]
  refine m_isWhole h hf (fun hw => gF ne10 ⟨hv, hv, fun g => m_failBy h hf (qn hw (Or.inl g)), fun g => ⟨fun g2 => m_failBy h hf (qn hw (Or.inr g2)), fun g2 => ?_⟩⟩) (fun hw => gT rfl (qw hw))
  refine m_isRow (fun rx => gF ne10 (m_isRow (fun ry => gF ne10 ?_) (fun ry => gT rfl (m_failBy h hf (qs hw g g2 (fun q => ry q.2.1)))))) (fun rx => gT rfl (m_failBy h hf (qs hw g g2 (fun q => rx q.1))))
  have e82 : ∀ s0 s1 : Int32, ¬ s0 = s1 → K (mFail μ fl 5 5 a) → wX11_copyPlaces_82 μ a (nI n) (sI μ 26 n) s0 s1 K := by
    intro s0 s1 hs q
    unfold wX11_copyPlaces_82
    exact gF hs (m_failBy h hf q)
  unfold wX11_copyPlaces_71
  exact ⟨fun h2 => ⟨fun h3 => qr hw rx ry ⟨fun _ => h3, fun _ => h2⟩ 1, fun h3 => e82 1 0 (by decide) (qs hw g g2 (fun q => h3 (q.2.2.mp h2)))⟩, fun h2 => ⟨fun h3 => e82 0 1 (by decide) (qs hw g g2 (fun q => h2 (q.2.2.mpr h3))), fun h3 => qr hw rx ry ⟨fun q => absurd q h2, fun q => absurd q h3⟩ 0⟩⟩
end CP
section CO2
variable {so dl ln : Nat → Nat} {th us lm mk tl cl fl na lim n kx ky z : Nat} {a ty : Int32} {X Y : Int64}
theorem copy_ok (hus : us ≤ 1708) (hth : th ≤ 200) (hfl : fl ≤ 20) (hkx : kx < th) (hky : ky < th) (h4x : so kx ≤ 4) (h4y : so ky ≤ 4) (hso : so kx = 2 ↔ so ky = 2) (hX : nbr X = nI (dl kx)) (hY : nbr Y = nI (dl ky)) (hYs : srt Y = ty) (hty : ty = nI (so ky)) (hzx : z ≤ ln kx) (hzy : z ≤ ln ky) : ∀ (d i ch : Nat) (σ μ : Sg), i + d = z → ch + d ≤ 1700 → Bs so dl ln th us lm mk ch tl cl fl na lim σ μ → sI μ 0 40 = nI z →
    ∃ (r : Int32) (σ' μ' : Sg) (ch' : Nat), (r = 0 ∨ r = 1) ∧ ch' ≤ ch + d ∧ Bs so dl ln th us lm mk ch' tl cl fl na lim σ' μ' ∧ Fc σ σ' n ∧ sI σ' 22 n = sI σ 22 n ∧ Fm μ μ' n ∧ (∀ j, j ≠ 20 → sI μ' 0 j = sI μ 0 j) ∧ (∀ Q : Int32 → Sg → Prop, Q r σ' → wX7_copied_3 (d + 1) σ X Y (nI z) (nI i) Q) ∧ (∀ K : Sg → Prop, (r = 1 → K μ') → (r = 0 → K (mFail μ' fl 5 5 a)) → wX11_copyPlaces_153 (d + 1) μ a ty (nI kx) (nI ky) (nI i) K)
  | 0, i, ch, σ, μ, h, hc, hB, h40 => by
    have hlen := hB.len hkx h4x
    refine ⟨1, σ, μ, ch, Or.inr rfl, by omega, hB, Fc.rf, rfl, Fm.rf, fun _ _ => rfl, fun Q q => ?_, fun K q1 _ => ?_⟩
    · unfold wX7_copied_3
      exact gF (nltN i z rfl rfl (by omega) (by omega)) q
    · unfold wX11_copyPlaces_153
      rw [h40]
      exact gF (nltN i z rfl rfl (by omega) (by omega)) (q1 rfl)
  | d + 1, i, ch, σ, μ, h, hc, hB, h40 => by
    have hlen := hB.len hkx h4x
    have hleny := hB.len hky h4y
    obtain ⟨p1, p2, p3, p4, p5, p6⟩ := hB.place (i := i) hkx h4x (by omega)
    obtain ⟨q1, q2, q3, q4, q5, q6⟩ := hB.place (i := i) hky h4y (by omega)
    have ecx : (nbr X + 1) + nI i = nI (dl kx + 1 + i) := addN _ _ (addN _ 1 hX rfl) rfl
    have ecy : (nbr Y + 1) + nI i = nI (dl ky + 1 + i) := addN _ _ (addN _ 1 hY rfl) rfl
    have e1 : sI σ 6 3 = nI us := hB.2.2.2.2.2.2.1.1
    have e2 : sI σ 6 4 = nI ch := hB.2.2.2.2.2.2.1.2.1
    have e3 : sI μ 0 20 = nI ch := hB.2.2.2.2.2.2.1.2.2.1
    have e5 : sI μ 0 44 = nI fl := hB.2.2.2.2.2.2.2.1.2.2.2.2.2.1
    have emx : ((16 : Int32) * nI kx) + nI i = nI (16 * kx + i) := addN (16 * kx) i (mulN 16 kx rfl rfl) rfl
    have emy : ((8 : Int32) + ((16 : Int32) * nI ky)) + nI i = nI (8 + 16 * ky + i) := addN (8 + 16 * ky) i (addN 8 (16 * ky) rfl (mulN 16 ky rfl rfl)) rfl
    have hcl : (nI (16 * kx + i)).toNatClampNeg = 16 * kx + i := nI_clamp (by omega)
    have hvx : vp_in (nI (16 * kx + i)) 3520 := vp_in_nI (by omega) (by decide)
    have lt : nI i < nI z := ltN i z rfl rfl (by omega) (by omega)
    have es := p5.srt
    by_cases hst : ty = 4 ∧ sI μ 6 (16 * kx + i) = 5
    · refine ⟨0, σ, μ, ch, Or.inl rfl, by omega, hB, Fc.rf, rfl, Fm.rf, fun _ _ => rfl, fun Q q => ?_, fun K _ q0 => ?_⟩
      · unfold wX7_copied_3
        refine gT lt (c_cellOf ?_)
        rw [ecx]
        refine c_read rfl e1 hus p4 (c_isStrange (fun _ => gF ne10 q) (fun g => absurd ⟨hYs.trans hst.1, es.trans hst.2⟩ g))
      · unfold wX11_copyPlaces_153
        rw [h40, emx, hcl]
        exact gT lt (gT hst.1 ⟨hvx, gT hst.2 (m_failBy e5 hfl (q0 rfl))⟩)
    · have htyp : typ so (8 + 16 * ky + i) (sI μ 6 (16 * kx + i)) := by
        intro _
        obtain ⟨w1, w2⟩ := w_div (k := ky) p1
        obtain ⟨v1, v2⟩ := w_div (k := kx) p1
        have t6 := p6 (by omega)
        rw [v1] at t6
        rw [w1]
        have hx2 := (hB.1.1 kx hkx).1
        refine ⟨fun g => t6.1 (hso.mpr g), fun g => ?_, fun g => ?_⟩
        · have n2 : so kx ≠ 2 := fun q => by have := hso.mp q; omega
          rcases (show so kx = 3 ∨ so kx = 4 by omega) with r | r
          · exact t6.2.1 r
          · rcases t6.2.2 r with r | r
            · exact Or.inl r
            · exact Or.inr (Or.inr r)
        · have n2 : so kx ≠ 2 := fun q => by have := hso.mp q; omega
          have n5 : ¬ sI μ 6 (16 * kx + i) = 5 := fun q => hst ⟨by rw [hty, g]; rfl, q⟩
          rcases (show so kx = 3 ∨ so kx = 4 by omega) with r | r
          · rcases t6.2.1 r with r | r | r
            · exact Or.inl r
            · exact absurd r n5
            · exact Or.inr r
          · exact t6.2.2 r
      have hB2 := Bs.write (w := 8 + 16 * ky + i) hB q2 p5 htyp
      rw [q3] at hB2
      have h402 : sI (mWrite μ ch (8 + 16 * ky + i) (sI μ 6 (16 * kx + i)) (sI μ 7 (16 * kx + i))) 0 40 = nI z := by
        rw [mWrite_I _ _ _ _ _ _ _ (by decide) (by decide) (by decide) (by decide) (by decide) (by decide) (by decide) (Or.inr (by decide))]
        exact h40
      obtain ⟨r, σ', μ', ch', b1, b2, b3, b4, b5, b6, b7, b8, b9⟩ := copy_ok hus hth hfl hkx hky h4x h4y hso hX hY hYs hty hzx hzy d (i + 1) (ch + 1) _ _ (by omega) (by omega) hB2 h402
      refine ⟨r, σ', μ', ch', b1, by omega, b3, ?_, b5, ?_, fun j hj => ?_, fun Q q => ?_, fun K k1 k0 => ?_⟩
      · exact Fc.tr Fc.rf.write b4
      · exact Fm.tr Fm.rf.write b6
      · rw [b7 j hj, mWrite_I _ _ _ _ _ _ _ (by decide) (by decide) (by decide) (by decide) (by decide) (by decide) (by decide) (Or.inr hj)]
      · have := b8 Q q
        unfold wX7_copied_3
        refine gT lt (c_cellOf ?_)
        rw [ecx]
        refine c_read rfl e1 hus p4 (c_isStrange (fun g => absurd ⟨hYs.symm.trans g.1, es.symm.trans g.2⟩ hst) (fun _ => gT rfl (c_cellOf ?_)))
        rw [ecy, nI_1]
        exact c_write rfl e1 hus q4 e2 (by omega) this
      · have := b9 K k1 k0
        unfold wX11_copyPlaces_153
        rw [h40, emx, hcl, emy, nI_1]
        refine gT lt ⟨fun g4 => ⟨hvx, fun g5 => absurd ⟨g4, g5⟩ hst, fun _ => ⟨hvx, hvx, ?_⟩⟩, fun _ => ⟨hvx, hvx, ?_⟩⟩
        · exact m_write rfl (by omega) e3 (by omega) this
        · exact m_write rfl (by omega) e3 (by omega) this
end CO2
