/-! X11_in in -/
def wX11_in (σ : Sg) (l0 : Int32) (l1 : Int32) (l2 : Int32) (Q : Int32 → Sg → Prop) : Prop :=
  (l0 < l1 → (
    Q (0 : Int32) σ
  )) ∧ (¬ l0 < l1 → (
    (l2 < l0 → (
      Q (0 : Int32) σ
    )) ∧ (¬ l2 < l0 → (
      Q (1 : Int32) σ
    ))
  ))
set_option maxRecDepth 100000 in
set_option maxHeartbeats 4000000 in
theorem xX11_in {G : Gx} (hG : gLy G = LyM) {σ : Sg} {l0 : Int32} {l1 : Int32} {l2 : Int32} {Q : Int32 → Sg → Prop} (h : wX11_in σ l0 l1 l2 Q) : X G mX11_in 1 0 [(0, .int l0), (1, .int l1), (2, .int l2)] [] σ (qi Q) := by
  unfold wX11_in at h
  refine x_iload_n dX11_in_0 rfl 0 rfl ?_
  refine x_iload_n dX11_in_1 rfl 1 rfl ?_
  refine x_icmp_lt dX11_in_2 14 (by decide) (fun c => ?_) (fun c => ?_)
  · replace h := h.1 c
    refine x_iconst (v := (0 : Int32)) dX11_in_14 rfl ?_
    exact x_zret rfl bz_0 dX11_in_15 ⟨_, rfl, h⟩
  · replace h := h.2 c
    refine x_iload_n dX11_in_5 rfl 0 rfl ?_
    refine x_iload_n dX11_in_6 rfl 2 rfl ?_
    refine x_icmp_gt dX11_in_7 14 (by decide) (fun c => ?_) (fun c => ?_)
    · replace h := h.1 c
      refine x_iconst (v := (0 : Int32)) dX11_in_14 rfl ?_
      exact x_zret rfl bz_0 dX11_in_15 ⟨_, rfl, h⟩
    · replace h := h.2 c
      refine x_iconst (v := (1 : Int32)) dX11_in_10 rfl ?_
      refine x_goto dX11_in_11 15 (by decide) ?_
      exact x_zret rfl bz_1 dX11_in_15 ⟨_, rfl, h⟩
theorem ct_X11_in {G : Gx} (hG : gLy G = LyM) {σ : Sg} {l0 : Int32} {l1 : Int32} {l2 : Int32} {Q : Int32 → Sg → Prop} (h : wX11_in σ l0 l1 l2 Q) : CT G mX11_in 1 [.int l0, .int l1, .int l2] σ (qi Q) := ct_of rfl (Nat.le_of_ble_eq_true rfl) rfl (xX11_in hG h)
/-! X11_noAct noAct -/
def wX11_noAct (σ : Sg) (l1 : Int32) (Q : Int32 → Sg → Prop) : Prop :=
  wX11_in σ l1 (0 : Int32) ((sI σ 0 0) - (1 : Int32)) (fun r2 σ1 =>
  (r2 = 0 → (
    Q (1 : Int32) σ1
  )) ∧ (¬ r2 = 0 → (
    Q (0 : Int32) σ1
  ))
  )
set_option maxRecDepth 100000 in
set_option maxHeartbeats 4000000 in
theorem xX11_noAct {G : Gx} (hG : gLy G = LyM) {σ : Sg} {l1 : Int32} {Q : Int32 → Sg → Prop} (h : wX11_noAct σ l1 Q) : X G mX11_noAct 2 0 [(0, .ref (gad G 0)), (1, .int l1)] [] σ (qi Q) := by
  unfold wX11_noAct at h
  refine x_iload_n dX11_noAct_0 rfl 1 rfl ?_
  refine x_iconst (v := (0 : Int32)) dX11_noAct_1 rfl ?_
  refine x_aload_n dX11_noAct_2 rfl 0 rfl ?_
  refine x_getIv hG fg_X11_104 dX11_noAct_3 rfl ?_
  refine x_iconst (v := (1 : Int32)) dX11_noAct_6 rfl ?_
  refine x_isub dX11_noAct_7 ?_
  refine x_callSi [_, _, _] ms_X11_in lk_X11_107 rfl ⟨by decide, by decide⟩ rfl (Nat.le_of_ble_eq_true rfl) dX11_noAct_8 (ct_X11_in hG h) (fun r2 σ1 h => ?_)
  refine x_if_ne dX11_noAct_11 18 (by decide) (fun c => ?_) (fun c => ?_)
  · replace h := h.1 c
    refine x_iconst (v := (1 : Int32)) dX11_noAct_14 rfl ?_
    refine x_goto dX11_noAct_15 19 (by decide) ?_
    exact x_zret rfl bz_1 dX11_noAct_19 ⟨_, rfl, h⟩
  · replace h := h.2 c
    refine x_iconst (v := (0 : Int32)) dX11_noAct_18 rfl ?_
    exact x_zret rfl bz_0 dX11_noAct_19 ⟨_, rfl, h⟩
theorem ct_X11_noAct {G : Gx} (hG : gLy G = LyM) {σ : Sg} {l1 : Int32} {Q : Int32 → Sg → Prop} (h : wX11_noAct σ l1 Q) : CT G mX11_noAct 2 [.ref (gad G 0), .int l1] σ (qi Q) := ct_of rfl (Nat.le_of_ble_eq_true rfl) rfl (xX11_noAct hG h)
/-! X11_actsOf actsOf -/
def wX11_actsOf (σ : Sg) (l0 : Int32) (Q : Int32 → Sg → Prop) : Prop :=
  (l0 = 3 → (
    Q (3 : Int32) σ
  )) ∧
  (l0 = 4 → (
    Q (5 : Int32) σ
  )) ∧
  (l0 = 5 → (
    Q (3 : Int32) σ
  )) ∧
  (l0 = 6 → (
    Q (3 : Int32) σ
  )) ∧
  (l0 = 7 → (
    Q (3 : Int32) σ
  )) ∧
  (l0 = 8 → (
    Q (3 : Int32) σ
  )) ∧
  (l0 = 9 → (
    Q (3 : Int32) σ
  )) ∧
  (l0 = 10 → (
    Q (1 : Int32) σ
  )) ∧
  (l0 = 11 → (
    Q (1 : Int32) σ
  )) ∧
  (l0 = 12 → (
    Q (1 : Int32) σ
  )) ∧
  (l0 = 13 → (
    Q (1 : Int32) σ
  )) ∧
  (l0 = 14 → (
    Q (1 : Int32) σ
  )) ∧
  (l0 = 15 → (
    Q (3 : Int32) σ
  )) ∧
  (l0 = 16 → (
    Q (7 : Int32) σ
  )) ∧
  (l0 = 17 → (
    Q (1 : Int32) σ
  )) ∧
  (l0 = 18 → (
    Q (3 : Int32) σ
  )) ∧
  (l0 = 19 → (
    Q (7 : Int32) σ
  )) ∧
  (l0 = 20 → (
    Q (1 : Int32) σ
  )) ∧
  (l0 = 21 → (
    Q (5 : Int32) σ
  )) ∧
  (l0 = 22 → (
    Q (3 : Int32) σ
  )) ∧
  (l0 = 23 → (
    Q (7 : Int32) σ
  )) ∧
  (l0 = 24 → (
    Q (3 : Int32) σ
  )) ∧
  (l0 = 25 → (
    Q (2 : Int32) σ
  )) ∧
  (l0 = 26 → (
    Q (1 : Int32) σ
  )) ∧
  (l0 = 27 → (
    Q (1 : Int32) σ
  )) ∧
  (l0 = 28 → (
    Q (1 : Int32) σ
  )) ∧
  (l0 = 29 → (
    Q (1 : Int32) σ
  )) ∧
  (l0 = 30 → (
    Q (0 : Int32) σ
  )) ∧
  (l0 = 31 → (
    Q (2 : Int32) σ
  )) ∧
  (¬ l0 = 3 → ¬ l0 = 4 → ¬ l0 = 5 → ¬ l0 = 6 → ¬ l0 = 7 → ¬ l0 = 8 → ¬ l0 = 9 → ¬ l0 = 10 → ¬ l0 = 11 → ¬ l0 = 12 → ¬ l0 = 13 → ¬ l0 = 14 → ¬ l0 = 15 → ¬ l0 = 16 → ¬ l0 = 17 → ¬ l0 = 18 → ¬ l0 = 19 → ¬ l0 = 20 → ¬ l0 = 21 → ¬ l0 = 22 → ¬ l0 = 23 → ¬ l0 = 24 → ¬ l0 = 25 → ¬ l0 = 26 → ¬ l0 = 27 → ¬ l0 = 28 → ¬ l0 = 29 → ¬ l0 = 30 → ¬ l0 = 31 → (
    Q (0 : Int32) σ
  ))
set_option maxRecDepth 100000 in
set_option maxHeartbeats 4000000 in
theorem xX11_actsOf {G : Gx} (hG : gLy G = LyM) {σ : Sg} {l0 : Int32} {Q : Int32 → Sg → Prop} (h : wX11_actsOf σ l0 Q) : X G mX11_actsOf 1 0 [(0, .int l0)] [] σ (qi Q) := by
  unfold wX11_actsOf at h
  refine x_iload_n dX11_actsOf_0 rfl 0 rfl ?_
  refine x_case (3 : Int32) (fun c => ?_) (fun c0 => ?_)
  · refine x_tblIn (3 : Int32) 136 c dX11_actsOf_1 (by decide) (by decide) rfl (by decide) ?_
    replace h := h.1 c
    refine x_iconst (v := (3 : Int32)) dX11_actsOf_136 rfl ?_
    exact x_iret rfl dX11_actsOf_137 ⟨_, rfl, h⟩
  replace h := h.2
  refine x_case (4 : Int32) (fun c => ?_) (fun c1 => ?_)
  · refine x_tblIn (4 : Int32) 132 c dX11_actsOf_1 (by decide) (by decide) rfl (by decide) ?_
    replace h := h.1 c
    refine x_iconst (v := (5 : Int32)) dX11_actsOf_132 rfl ?_
    exact x_iret rfl dX11_actsOf_133 ⟨_, rfl, h⟩
  replace h := h.2
  refine x_case (5 : Int32) (fun c => ?_) (fun c2 => ?_)
  · refine x_tblIn (5 : Int32) 136 c dX11_actsOf_1 (by decide) (by decide) rfl (by decide) ?_
    replace h := h.1 c
    refine x_iconst (v := (3 : Int32)) dX11_actsOf_136 rfl ?_
    exact x_iret rfl dX11_actsOf_137 ⟨_, rfl, h⟩
  replace h := h.2
  refine x_case (6 : Int32) (fun c => ?_) (fun c3 => ?_)
  · refine x_tblIn (6 : Int32) 136 c dX11_actsOf_1 (by decide) (by decide) rfl (by decide) ?_
    replace h := h.1 c
    refine x_iconst (v := (3 : Int32)) dX11_actsOf_136 rfl ?_
    exact x_iret rfl dX11_actsOf_137 ⟨_, rfl, h⟩
  replace h := h.2
  refine x_case (7 : Int32) (fun c => ?_) (fun c4 => ?_)
  · refine x_tblIn (7 : Int32) 136 c dX11_actsOf_1 (by decide) (by decide) rfl (by decide) ?_
    replace h := h.1 c
    refine x_iconst (v := (3 : Int32)) dX11_actsOf_136 rfl ?_
    exact x_iret rfl dX11_actsOf_137 ⟨_, rfl, h⟩
  replace h := h.2
  refine x_case (8 : Int32) (fun c => ?_) (fun c5 => ?_)
  · refine x_tblIn (8 : Int32) 136 c dX11_actsOf_1 (by decide) (by decide) rfl (by decide) ?_
    replace h := h.1 c
    refine x_iconst (v := (3 : Int32)) dX11_actsOf_136 rfl ?_
    exact x_iret rfl dX11_actsOf_137 ⟨_, rfl, h⟩
  replace h := h.2
  refine x_case (9 : Int32) (fun c => ?_) (fun c6 => ?_)
  · refine x_tblIn (9 : Int32) 136 c dX11_actsOf_1 (by decide) (by decide) rfl (by decide) ?_
    replace h := h.1 c
    refine x_iconst (v := (3 : Int32)) dX11_actsOf_136 rfl ?_
    exact x_iret rfl dX11_actsOf_137 ⟨_, rfl, h⟩
  replace h := h.2
  refine x_case (10 : Int32) (fun c => ?_) (fun c7 => ?_)
  · refine x_tblIn (10 : Int32) 134 c dX11_actsOf_1 (by decide) (by decide) rfl (by decide) ?_
    replace h := h.1 c
    refine x_iconst (v := (1 : Int32)) dX11_actsOf_134 rfl ?_
    exact x_iret rfl dX11_actsOf_135 ⟨_, rfl, h⟩
  replace h := h.2
  refine x_case (11 : Int32) (fun c => ?_) (fun c8 => ?_)
  · refine x_tblIn (11 : Int32) 134 c dX11_actsOf_1 (by decide) (by decide) rfl (by decide) ?_
    replace h := h.1 c
    refine x_iconst (v := (1 : Int32)) dX11_actsOf_134 rfl ?_
    exact x_iret rfl dX11_actsOf_135 ⟨_, rfl, h⟩
  replace h := h.2
  refine x_case (12 : Int32) (fun c => ?_) (fun c9 => ?_)
  · refine x_tblIn (12 : Int32) 134 c dX11_actsOf_1 (by decide) (by decide) rfl (by decide) ?_
    replace h := h.1 c
    refine x_iconst (v := (1 : Int32)) dX11_actsOf_134 rfl ?_
    exact x_iret rfl dX11_actsOf_135 ⟨_, rfl, h⟩
  replace h := h.2
  refine x_case (13 : Int32) (fun c => ?_) (fun c10 => ?_)
  · refine x_tblIn (13 : Int32) 134 c dX11_actsOf_1 (by decide) (by decide) rfl (by decide) ?_
    replace h := h.1 c
    refine x_iconst (v := (1 : Int32)) dX11_actsOf_134 rfl ?_
    exact x_iret rfl dX11_actsOf_135 ⟨_, rfl, h⟩
  replace h := h.2
  refine x_case (14 : Int32) (fun c => ?_) (fun c11 => ?_)
  · refine x_tblIn (14 : Int32) 134 c dX11_actsOf_1 (by decide) (by decide) rfl (by decide) ?_
    replace h := h.1 c
    refine x_iconst (v := (1 : Int32)) dX11_actsOf_134 rfl ?_
    exact x_iret rfl dX11_actsOf_135 ⟨_, rfl, h⟩
  replace h := h.2
  refine x_case (15 : Int32) (fun c => ?_) (fun c12 => ?_)
  · refine x_tblIn (15 : Int32) 136 c dX11_actsOf_1 (by decide) (by decide) rfl (by decide) ?_
    replace h := h.1 c
    refine x_iconst (v := (3 : Int32)) dX11_actsOf_136 rfl ?_
    exact x_iret rfl dX11_actsOf_137 ⟨_, rfl, h⟩
  replace h := h.2
  refine x_case (16 : Int32) (fun c => ?_) (fun c13 => ?_)
  · refine x_tblIn (16 : Int32) 138 c dX11_actsOf_1 (by decide) (by decide) rfl (by decide) ?_
    replace h := h.1 c
    refine x_bipush (v := (7 : Int32)) dX11_actsOf_138 rfl ?_
    exact x_iret rfl dX11_actsOf_140 ⟨_, rfl, h⟩
  replace h := h.2
  refine x_case (17 : Int32) (fun c => ?_) (fun c14 => ?_)
  · refine x_tblIn (17 : Int32) 134 c dX11_actsOf_1 (by decide) (by decide) rfl (by decide) ?_
    replace h := h.1 c
    refine x_iconst (v := (1 : Int32)) dX11_actsOf_134 rfl ?_
    exact x_iret rfl dX11_actsOf_135 ⟨_, rfl, h⟩
  replace h := h.2
  refine x_case (18 : Int32) (fun c => ?_) (fun c15 => ?_)
  · refine x_tblIn (18 : Int32) 136 c dX11_actsOf_1 (by decide) (by decide) rfl (by decide) ?_
    replace h := h.1 c
    refine x_iconst (v := (3 : Int32)) dX11_actsOf_136 rfl ?_
    exact x_iret rfl dX11_actsOf_137 ⟨_, rfl, h⟩
  replace h := h.2
  refine x_case (19 : Int32) (fun c => ?_) (fun c16 => ?_)
  · refine x_tblIn (19 : Int32) 138 c dX11_actsOf_1 (by decide) (by decide) rfl (by decide) ?_
    replace h := h.1 c
    refine x_bipush (v := (7 : Int32)) dX11_actsOf_138 rfl ?_
    exact x_iret rfl dX11_actsOf_140 ⟨_, rfl, h⟩
  replace h := h.2
  refine x_case (20 : Int32) (fun c => ?_) (fun c17 => ?_)
  · refine x_tblIn (20 : Int32) 134 c dX11_actsOf_1 (by decide) (by decide) rfl (by decide) ?_
    replace h := h.1 c
    refine x_iconst (v := (1 : Int32)) dX11_actsOf_134 rfl ?_
    exact x_iret rfl dX11_actsOf_135 ⟨_, rfl, h⟩
  replace h := h.2
  refine x_case (21 : Int32) (fun c => ?_) (fun c18 => ?_)
  · refine x_tblIn (21 : Int32) 132 c dX11_actsOf_1 (by decide) (by decide) rfl (by decide) ?_
    replace h := h.1 c
    refine x_iconst (v := (5 : Int32)) dX11_actsOf_132 rfl ?_
    exact x_iret rfl dX11_actsOf_133 ⟨_, rfl, h⟩
  replace h := h.2
  refine x_case (22 : Int32) (fun c => ?_) (fun c19 => ?_)
  · refine x_tblIn (22 : Int32) 136 c dX11_actsOf_1 (by decide) (by decide) rfl (by decide) ?_
    replace h := h.1 c
    refine x_iconst (v := (3 : Int32)) dX11_actsOf_136 rfl ?_
    exact x_iret rfl dX11_actsOf_137 ⟨_, rfl, h⟩
  replace h := h.2
  refine x_case (23 : Int32) (fun c => ?_) (fun c20 => ?_)
  · refine x_tblIn (23 : Int32) 138 c dX11_actsOf_1 (by decide) (by decide) rfl (by decide) ?_
    replace h := h.1 c
    refine x_bipush (v := (7 : Int32)) dX11_actsOf_138 rfl ?_
    exact x_iret rfl dX11_actsOf_140 ⟨_, rfl, h⟩
  replace h := h.2
  refine x_case (24 : Int32) (fun c => ?_) (fun c21 => ?_)
  · refine x_tblIn (24 : Int32) 136 c dX11_actsOf_1 (by decide) (by decide) rfl (by decide) ?_
    replace h := h.1 c
    refine x_iconst (v := (3 : Int32)) dX11_actsOf_136 rfl ?_
    exact x_iret rfl dX11_actsOf_137 ⟨_, rfl, h⟩
  replace h := h.2
  refine x_case (25 : Int32) (fun c => ?_) (fun c22 => ?_)
  · refine x_tblIn (25 : Int32) 141 c dX11_actsOf_1 (by decide) (by decide) rfl (by decide) ?_
    replace h := h.1 c
    refine x_iconst (v := (2 : Int32)) dX11_actsOf_141 rfl ?_
    exact x_iret rfl dX11_actsOf_142 ⟨_, rfl, h⟩
  replace h := h.2
  refine x_case (26 : Int32) (fun c => ?_) (fun c23 => ?_)
  · refine x_tblIn (26 : Int32) 134 c dX11_actsOf_1 (by decide) (by decide) rfl (by decide) ?_
    replace h := h.1 c
    refine x_iconst (v := (1 : Int32)) dX11_actsOf_134 rfl ?_
    exact x_iret rfl dX11_actsOf_135 ⟨_, rfl, h⟩
  replace h := h.2
  refine x_case (27 : Int32) (fun c => ?_) (fun c24 => ?_)
  · refine x_tblIn (27 : Int32) 134 c dX11_actsOf_1 (by decide) (by decide) rfl (by decide) ?_
    replace h := h.1 c
    refine x_iconst (v := (1 : Int32)) dX11_actsOf_134 rfl ?_
    exact x_iret rfl dX11_actsOf_135 ⟨_, rfl, h⟩
  replace h := h.2
  refine x_case (28 : Int32) (fun c => ?_) (fun c25 => ?_)
  · refine x_tblIn (28 : Int32) 134 c dX11_actsOf_1 (by decide) (by decide) rfl (by decide) ?_
    replace h := h.1 c
    refine x_iconst (v := (1 : Int32)) dX11_actsOf_134 rfl ?_
    exact x_iret rfl dX11_actsOf_135 ⟨_, rfl, h⟩
  replace h := h.2
  refine x_case (29 : Int32) (fun c => ?_) (fun c26 => ?_)
  · refine x_tblIn (29 : Int32) 134 c dX11_actsOf_1 (by decide) (by decide) rfl (by decide) ?_
    replace h := h.1 c
    refine x_iconst (v := (1 : Int32)) dX11_actsOf_134 rfl ?_
    exact x_iret rfl dX11_actsOf_135 ⟨_, rfl, h⟩
  replace h := h.2
  refine x_case (30 : Int32) (fun c => ?_) (fun c27 => ?_)
  · refine x_tblIn (30 : Int32) 143 c dX11_actsOf_1 (by decide) (by decide) rfl (by decide) ?_
    replace h := h.1 c
    refine x_iconst (v := (0 : Int32)) dX11_actsOf_143 rfl ?_
    exact x_iret rfl dX11_actsOf_144 ⟨_, rfl, h⟩
  replace h := h.2
  refine x_case (31 : Int32) (fun c => ?_) (fun c28 => ?_)
  · refine x_tblIn (31 : Int32) 141 c dX11_actsOf_1 (by decide) (by decide) rfl (by decide) ?_
    replace h := h.1 c
    refine x_iconst (v := (2 : Int32)) dX11_actsOf_141 rfl ?_
    exact x_iret rfl dX11_actsOf_142 ⟨_, rfl, h⟩
  replace h := h.2
  replace h := h c0 c1 c2 c3 c4 c5 c6 c7 c8 c9 c10 c11 c12 c13 c14 c15 c16 c17 c18 c19 c20 c21 c22 c23 c24 c25 c26 c27 c28
  refine x_tblOut [3, 4, 5, 6, 7, 8, 9, 10, 11, 12, 13, 14, 15, 16, 17, 18, 19, 20, 21, 22, 23, 24, 25, 26, 27, 28, 29, 30, 31] 29 143 (by decide) (by decide) (List.forall_mem_cons.mpr ⟨c0, List.forall_mem_cons.mpr ⟨c1, List.forall_mem_cons.mpr ⟨c2, List.forall_mem_cons.mpr ⟨c3, List.forall_mem_cons.mpr ⟨c4, List.forall_mem_cons.mpr ⟨c5, List.forall_mem_cons.mpr ⟨c6, List.forall_mem_cons.mpr ⟨c7, List.forall_mem_cons.mpr ⟨c8, List.forall_mem_cons.mpr ⟨c9, List.forall_mem_cons.mpr ⟨c10, List.forall_mem_cons.mpr ⟨c11, List.forall_mem_cons.mpr ⟨c12, List.forall_mem_cons.mpr ⟨c13, List.forall_mem_cons.mpr ⟨c14, List.forall_mem_cons.mpr ⟨c15, List.forall_mem_cons.mpr ⟨c16, List.forall_mem_cons.mpr ⟨c17, List.forall_mem_cons.mpr ⟨c18, List.forall_mem_cons.mpr ⟨c19, List.forall_mem_cons.mpr ⟨c20, List.forall_mem_cons.mpr ⟨c21, List.forall_mem_cons.mpr ⟨c22, List.forall_mem_cons.mpr ⟨c23, List.forall_mem_cons.mpr ⟨c24, List.forall_mem_cons.mpr ⟨c25, List.forall_mem_cons.mpr ⟨c26, List.forall_mem_cons.mpr ⟨c27, List.forall_mem_cons.mpr ⟨c28, fun _ h => absurd h List.not_mem_nil⟩⟩⟩⟩⟩⟩⟩⟩⟩⟩⟩⟩⟩⟩⟩⟩⟩⟩⟩⟩⟩⟩⟩⟩⟩⟩⟩⟩⟩) dX11_actsOf_1 (by decide) ?_
  refine x_iconst (v := (0 : Int32)) dX11_actsOf_143 rfl ?_
  exact x_iret rfl dX11_actsOf_144 ⟨_, rfl, h⟩
theorem ct_X11_actsOf {G : Gx} (hG : gLy G = LyM) {σ : Sg} {l0 : Int32} {Q : Int32 → Sg → Prop} (h : wX11_actsOf σ l0 Q) : CT G mX11_actsOf 1 [.int l0] σ (qi Q) := ct_of rfl (Nat.le_of_ble_eq_true rfl) rfl (xX11_actsOf hG h)
/-! X11_act act -/
def wX11_act_167 (σ : Sg) (l1 : Int32) (l2 : Int32) (l3 : Int32) (l4 : Int32) (s0 : Int32) (Q : Int32 → Sg → Prop) : Prop :=
  (s0 = 0 → (
    Q (-102 : Int32) σ
  )) ∧ (¬ s0 = 0 → (
    ((sI σ 0 0) = (60 : Int32) → (
      Q (-104 : Int32) σ
    )) ∧ (¬ (sI σ 0 0) = (60 : Int32) → (
      vp_in (sI σ 0 0) 60 ∧
      let σ1 := wI σ 1 ((sI σ 0 0)).toNatClampNeg l1
      vp_in (sI σ 0 0) 60 ∧
      let σ2 := wI σ1 2 ((sI σ 0 0)).toNatClampNeg l2
      vp_in (sI σ 0 0) 60 ∧
      let σ3 := wI σ2 3 ((sI σ 0 0)).toNatClampNeg l3
      vp_in (sI σ 0 0) 60 ∧
      let σ4 := wI σ3 4 ((sI σ 0 0)).toNatClampNeg l4
      let σ5 := wI σ4 0 0 ((sI σ 0 0) + (1 : Int32))
      Q (((sI σ 0 0) + (1 : Int32)) - (1 : Int32)) σ5
    ))
  ))
set_option maxRecDepth 100000 in
set_option maxHeartbeats 4000000 in
theorem xX11_act_167 {G : Gx} (hG : gLy G = LyM) {σ : Sg} {l1 : Int32} {l2 : Int32} {l3 : Int32} {l4 : Int32} {s0 : Int32} {Q : Int32 → Sg → Prop} (h : wX11_act_167 σ l1 l2 l3 l4 s0 Q) : X G mX11_act 3 167 [(0, .ref (gad G 0)), (1, .int l1), (2, .int l2), (3, .int l3), (4, .int l4)] [.int s0] σ (qi Q) := by
  unfold wX11_act_167 at h
  refine x_istore dX11_act_167 (Nat.le_of_ble_eq_true rfl) (lv' := [(6, _), (0, _), (1, _), (2, _), (3, _), (4, _)]) rfl ?_
  refine x_iload dX11_act_169 0 rfl ?_
  refine x_if_ne dX11_act_171 177 (by decide) (fun c => ?_) (fun c => ?_)
  · replace h := h.1 c
    refine x_bipush (v := (-102 : Int32)) dX11_act_174 rfl ?_
    exact x_iret rfl dX11_act_176 ⟨_, rfl, h⟩
  · replace h := h.2 c
    refine x_aload_n dX11_act_177 rfl 1 rfl ?_
    refine x_getIv hG fg_X11_104 dX11_act_178 rfl ?_
    refine x_bipush (v := (60 : Int32)) dX11_act_181 rfl ?_
    refine x_icmp_ne dX11_act_183 189 (by decide) (fun c => ?_) (fun c => ?_)
    · replace h := h.1 c
      refine x_bipush (v := (-104 : Int32)) dX11_act_186 rfl ?_
      exact x_iret rfl dX11_act_188 ⟨_, rfl, h⟩
    · replace h := h.2 c
      refine x_aload_n dX11_act_189 rfl 1 rfl ?_
      refine x_getR (q := 1) hG fg_X11_7 dX11_act_190 ?_
      refine x_aload_n dX11_act_193 rfl 1 rfl ?_
      refine x_getIv hG fg_X11_104 dX11_act_194 rfl ?_
      refine x_iload_n dX11_act_197 rfl 2 rfl ?_
      refine x_iast hG rfl dX11_act_198 h.1 ?_
      replace h := h.2
      refine x_aload_n dX11_act_199 rfl 1 rfl ?_
      refine x_getR (q := 2) hG fg_X11_13 dX11_act_200 ?_
      refine x_aload_n dX11_act_203 rfl 1 rfl ?_
      refine x_getIv hG fg_X11_104 dX11_act_204 (rd_no (by decide) rfl) ?_
      refine x_iload_n dX11_act_207 rfl 3 rfl ?_
      refine x_iast hG rfl dX11_act_208 h.1 ?_
      replace h := h.2
      refine x_aload_n dX11_act_209 rfl 1 rfl ?_
      refine x_getR (q := 3) hG fg_X11_16 dX11_act_210 ?_
      refine x_aload_n dX11_act_213 rfl 1 rfl ?_
      refine x_getIv hG fg_X11_104 dX11_act_214 (rd_no (by decide) (rd_no (by decide) rfl)) ?_
      refine x_iload_n dX11_act_217 rfl 4 rfl ?_
      refine x_iast hG rfl dX11_act_218 h.1 ?_
      replace h := h.2
      refine x_aload_n dX11_act_219 rfl 1 rfl ?_
      refine x_getR (q := 4) hG fg_X11_19 dX11_act_220 ?_
      refine x_aload_n dX11_act_223 rfl 1 rfl ?_
      refine x_getIv hG fg_X11_104 dX11_act_224 (rd_no (by decide) (rd_no (by decide) (rd_no (by decide) rfl))) ?_
      refine x_iload dX11_act_227 5 rfl ?_
      refine x_iast hG rfl dX11_act_229 h.1 ?_
      replace h := h.2
      refine x_aload_n dX11_act_230 rfl 1 rfl ?_
      refine x_dup dX11_act_231 rfl ?_
      refine x_getIv hG fg_X11_104 dX11_act_232 (rd_no (by decide) (rd_no (by decide) (rd_no (by decide) (rd_no (by decide) rfl)))) ?_
      refine x_iconst (v := (1 : Int32)) dX11_act_235 rfl ?_
      refine x_iadd dX11_act_236 ?_
      refine x_putI hG fp_X11_104 dX11_act_237 ?_
      refine x_aload_n dX11_act_240 rfl 1 rfl ?_
      refine x_getIv hG fg_X11_104 dX11_act_241 rd_hit ?_
      refine x_iconst (v := (1 : Int32)) dX11_act_244 rfl ?_
      refine x_isub dX11_act_245 ?_
      exact x_iret rfl dX11_act_246 ⟨_, rfl, h⟩
def wX11_act_162 (σ : Sg) (l1 : Int32) (l2 : Int32) (l3 : Int32) (l4 : Int32) (Q : Int32 → Sg → Prop) : Prop :=
  wX11_act_167 σ l1 l2 l3 l4 (1 : Int32) Q
set_option maxRecDepth 100000 in
set_option maxHeartbeats 4000000 in
theorem xX11_act_162 {G : Gx} (hG : gLy G = LyM) {σ : Sg} {l1 : Int32} {l2 : Int32} {l3 : Int32} {l4 : Int32} {Q : Int32 → Sg → Prop} (h : wX11_act_162 σ l1 l2 l3 l4 Q) : X G mX11_act 3 162 [(0, .ref (gad G 0)), (1, .int l1), (2, .int l2), (3, .int l3), (4, .int l4)] [] σ (qi Q) := by
  unfold wX11_act_162 at h
  refine x_iconst (v := (1 : Int32)) dX11_act_162 rfl ?_
  refine x_goto dX11_act_163 167 (by decide) ?_
  exact x_sub [0, 1, 2, 3, 4] rfl (xX11_act_167 hG h)
def wX11_act_166 (σ : Sg) (l1 : Int32) (l2 : Int32) (l3 : Int32) (l4 : Int32) (Q : Int32 → Sg → Prop) : Prop :=
  wX11_act_167 σ l1 l2 l3 l4 (0 : Int32) Q
set_option maxRecDepth 100000 in
set_option maxHeartbeats 4000000 in
theorem xX11_act_166 {G : Gx} (hG : gLy G = LyM) {σ : Sg} {l1 : Int32} {l2 : Int32} {l3 : Int32} {l4 : Int32} {Q : Int32 → Sg → Prop} (h : wX11_act_166 σ l1 l2 l3 l4 Q) : X G mX11_act 3 166 [(0, .ref (gad G 0)), (1, .int l1), (2, .int l2), (3, .int l3), (4, .int l4)] [] σ (qi Q) := by
  unfold wX11_act_166 at h
  refine x_iconst (v := (0 : Int32)) dX11_act_166 rfl ?_
  exact x_sub [0, 1, 2, 3, 4] rfl (xX11_act_167 hG h)
def wX11_act_146 (σ : Sg) (l1 : Int32) (l2 : Int32) (l3 : Int32) (l4 : Int32) (Q : Int32 → Sg → Prop) : Prop :=
  (l1 = (25 : Int32) → (
    wX11_in σ l2 (0 : Int32) (59 : Int32) (fun r2 σ1 =>
    (r2 = 0 → (
      wX11_act_166 σ1 l1 l2 l3 l4 Q
    )) ∧ (¬ r2 = 0 → (
      wX11_act_162 σ1 l1 l2 l3 l4 Q
    ))
    )
  )) ∧ (¬ l1 = (25 : Int32) → (
    wX11_act_162 σ l1 l2 l3 l4 Q
  ))
set_option maxRecDepth 100000 in
set_option maxHeartbeats 4000000 in
theorem xX11_act_146 {G : Gx} (hG : gLy G = LyM) {σ : Sg} {l1 : Int32} {l2 : Int32} {l3 : Int32} {l4 : Int32} {Q : Int32 → Sg → Prop} (h : wX11_act_146 σ l1 l2 l3 l4 Q) : X G mX11_act 3 146 [(0, .ref (gad G 0)), (1, .int l1), (2, .int l2), (3, .int l3), (4, .int l4)] [] σ (qi Q) := by
  unfold wX11_act_146 at h
  refine x_iload_n dX11_act_146 rfl 1 rfl ?_
  refine x_bipush (v := (25 : Int32)) dX11_act_147 rfl ?_
  refine x_icmp_ne dX11_act_149 162 (by decide) (fun c => ?_) (fun c => ?_)
  · replace h := h.1 c
    refine x_iload_n dX11_act_152 rfl 2 rfl ?_
    refine x_iconst (v := (0 : Int32)) dX11_act_153 rfl ?_
    refine x_bipush (v := (59 : Int32)) dX11_act_154 rfl ?_
    refine x_callSi [_, _, _] ms_X11_in lk_X11_107 rfl ⟨by decide, by decide⟩ rfl (Nat.le_of_ble_eq_true rfl) dX11_act_156 (ct_X11_in hG h) (fun r2 σ1 h => ?_)
    refine x_if_eq dX11_act_159 166 (by decide) (fun c => ?_) (fun c => ?_)
    · replace h := h.1 c
      exact x_sub [0, 1, 2, 3, 4] rfl (xX11_act_166 hG h)
    · replace h := h.2 c
      exact x_sub [0, 1, 2, 3, 4] rfl (xX11_act_162 hG h)
  · replace h := h.2 c
    exact x_sub [0, 1, 2, 3, 4] rfl (xX11_act_162 hG h)
def wX11_act_130 (σ : Sg) (l1 : Int32) (l2 : Int32) (l3 : Int32) (l4 : Int32) (Q : Int32 → Sg → Prop) : Prop :=
  (l1 = (21 : Int32) → (
    wX11_in σ l3 (0 : Int32) (8 : Int32) (fun r2 σ1 =>
    (r2 = 0 → (
      wX11_act_166 σ1 l1 l2 l3 l4 Q
    )) ∧ (¬ r2 = 0 → (
      wX11_act_146 σ1 l1 l2 l3 l4 Q
    ))
    )
  )) ∧ (¬ l1 = (21 : Int32) → (
    wX11_act_146 σ l1 l2 l3 l4 Q
  ))
set_option maxRecDepth 100000 in
set_option maxHeartbeats 4000000 in
theorem xX11_act_130 {G : Gx} (hG : gLy G = LyM) {σ : Sg} {l1 : Int32} {l2 : Int32} {l3 : Int32} {l4 : Int32} {Q : Int32 → Sg → Prop} (h : wX11_act_130 σ l1 l2 l3 l4 Q) : X G mX11_act 3 130 [(0, .ref (gad G 0)), (1, .int l1), (2, .int l2), (3, .int l3), (4, .int l4)] [] σ (qi Q) := by
  unfold wX11_act_130 at h
  refine x_iload_n dX11_act_130 rfl 1 rfl ?_
  refine x_bipush (v := (21 : Int32)) dX11_act_131 rfl ?_
  refine x_icmp_ne dX11_act_133 146 (by decide) (fun c => ?_) (fun c => ?_)
  · replace h := h.1 c
    refine x_iload_n dX11_act_136 rfl 3 rfl ?_
    refine x_iconst (v := (0 : Int32)) dX11_act_137 rfl ?_
    refine x_bipush (v := (8 : Int32)) dX11_act_138 rfl ?_
    refine x_callSi [_, _, _] ms_X11_in lk_X11_107 rfl ⟨by decide, by decide⟩ rfl (Nat.le_of_ble_eq_true rfl) dX11_act_140 (ct_X11_in hG h) (fun r2 σ1 h => ?_)
    refine x_if_eq dX11_act_143 166 (by decide) (fun c => ?_) (fun c => ?_)
    · replace h := h.1 c
      exact x_sub [0, 1, 2, 3, 4] rfl (xX11_act_166 hG h)
    · replace h := h.2 c
      exact x_sub [0, 1, 2, 3, 4] rfl (xX11_act_146 hG h)
  · replace h := h.2 c
    exact x_sub [0, 1, 2, 3, 4] rfl (xX11_act_146 hG h)
def wX11_act_120 (σ : Sg) (l1 : Int32) (l2 : Int32) (l3 : Int32) (l4 : Int32) (Q : Int32 → Sg → Prop) : Prop :=
  wX11_in σ l2 (0 : Int32) (7 : Int32) (fun r2 σ1 =>
  (r2 = 0 → (
    wX11_act_166 σ1 l1 l2 l3 l4 Q
  )) ∧ (¬ r2 = 0 → (
    wX11_act_130 σ1 l1 l2 l3 l4 Q
  ))
  )
set_option maxRecDepth 100000 in
set_option maxHeartbeats 4000000 in
theorem xX11_act_120 {G : Gx} (hG : gLy G = LyM) {σ : Sg} {l1 : Int32} {l2 : Int32} {l3 : Int32} {l4 : Int32} {Q : Int32 → Sg → Prop} (h : wX11_act_120 σ l1 l2 l3 l4 Q) : X G mX11_act 3 120 [(0, .ref (gad G 0)), (1, .int l1), (2, .int l2), (3, .int l3), (4, .int l4)] [] σ (qi Q) := by
  unfold wX11_act_120 at h
  refine x_iload_n dX11_act_120 rfl 2 rfl ?_
  refine x_iconst (v := (0 : Int32)) dX11_act_121 rfl ?_
  refine x_bipush (v := (7 : Int32)) dX11_act_122 rfl ?_
  refine x_callSi [_, _, _] ms_X11_in lk_X11_107 rfl ⟨by decide, by decide⟩ rfl (Nat.le_of_ble_eq_true rfl) dX11_act_124 (ct_X11_in hG h) (fun r2 σ1 h => ?_)
  refine x_if_eq dX11_act_127 166 (by decide) (fun c => ?_) (fun c => ?_)
  · replace h := h.1 c
    exact x_sub [0, 1, 2, 3, 4] rfl (xX11_act_166 hG h)
  · replace h := h.2 c
    exact x_sub [0, 1, 2, 3, 4] rfl (xX11_act_130 hG h)
def wX11_act_108 (σ : Sg) (l1 : Int32) (l2 : Int32) (l3 : Int32) (l4 : Int32) (Q : Int32 → Sg → Prop) : Prop :=
  (l1 = (30 : Int32) → (
    wX11_act_120 σ l1 l2 l3 l4 Q
  )) ∧ (¬ l1 = (30 : Int32) → (
    (l1 = (31 : Int32) → (
      wX11_act_120 σ l1 l2 l3 l4 Q
    )) ∧ (¬ l1 = (31 : Int32) → (
      wX11_act_130 σ l1 l2 l3 l4 Q
    ))
  ))
set_option maxRecDepth 100000 in
set_option maxHeartbeats 4000000 in
theorem xX11_act_108 {G : Gx} (hG : gLy G = LyM) {σ : Sg} {l1 : Int32} {l2 : Int32} {l3 : Int32} {l4 : Int32} {Q : Int32 → Sg → Prop} (h : wX11_act_108 σ l1 l2 l3 l4 Q) : X G mX11_act 3 108 [(0, .ref (gad G 0)), (1, .int l1), (2, .int l2), (3, .int l3), (4, .int l4)] [] σ (qi Q) := by
  unfold wX11_act_108 at h
  refine x_iload_n dX11_act_108 rfl 1 rfl ?_
  refine x_bipush (v := (30 : Int32)) dX11_act_109 rfl ?_
  refine x_icmp_eq dX11_act_111 120 (by decide) (fun c => ?_) (fun c => ?_)
  · replace h := h.1 c
    exact x_sub [0, 1, 2, 3, 4] rfl (xX11_act_120 hG h)
  · replace h := h.2 c
    refine x_iload_n dX11_act_114 rfl 1 rfl ?_
    refine x_bipush (v := (31 : Int32)) dX11_act_115 rfl ?_
    refine x_icmp_ne dX11_act_117 130 (by decide) (fun c => ?_) (fun c => ?_)
    · replace h := h.1 c
      exact x_sub [0, 1, 2, 3, 4] rfl (xX11_act_120 hG h)
    · replace h := h.2 c
      exact x_sub [0, 1, 2, 3, 4] rfl (xX11_act_130 hG h)
def wX11_act_93 (σ : Sg) (l1 : Int32) (l2 : Int32) (l3 : Int32) (l4 : Int32) (Q : Int32 → Sg → Prop) : Prop :=
  (l1 = (4 : Int32) → (
    wX11_in σ l3 (0 : Int32) (7 : Int32) (fun r2 σ1 =>
    (r2 = 0 → (
      wX11_act_166 σ1 l1 l2 l3 l4 Q
    )) ∧ (¬ r2 = 0 → (
      wX11_act_108 σ1 l1 l2 l3 l4 Q
    ))
    )
  )) ∧ (¬ l1 = (4 : Int32) → (
    wX11_act_108 σ l1 l2 l3 l4 Q
  ))
set_option maxRecDepth 100000 in
set_option maxHeartbeats 4000000 in
theorem xX11_act_93 {G : Gx} (hG : gLy G = LyM) {σ : Sg} {l1 : Int32} {l2 : Int32} {l3 : Int32} {l4 : Int32} {Q : Int32 → Sg → Prop} (h : wX11_act_93 σ l1 l2 l3 l4 Q) : X G mX11_act 3 93 [(0, .ref (gad G 0)), (1, .int l1), (2, .int l2), (3, .int l3), (4, .int l4)] [] σ (qi Q) := by
  unfold wX11_act_93 at h
  refine x_iload_n dX11_act_93 rfl 1 rfl ?_
  refine x_iconst (v := (4 : Int32)) dX11_act_94 rfl ?_
  refine x_icmp_ne dX11_act_95 108 (by decide) (fun c => ?_) (fun c => ?_)
  · replace h := h.1 c
    refine x_iload_n dX11_act_98 rfl 3 rfl ?_
    refine x_iconst (v := (0 : Int32)) dX11_act_99 rfl ?_
    refine x_bipush (v := (7 : Int32)) dX11_act_100 rfl ?_
    refine x_callSi [_, _, _] ms_X11_in lk_X11_107 rfl ⟨by decide, by decide⟩ rfl (Nat.le_of_ble_eq_true rfl) dX11_act_102 (ct_X11_in hG h) (fun r2 σ1 h => ?_)
    refine x_if_eq dX11_act_105 166 (by decide) (fun c => ?_) (fun c => ?_)
    · replace h := h.1 c
      exact x_sub [0, 1, 2, 3, 4] rfl (xX11_act_166 hG h)
    · replace h := h.2 c
      exact x_sub [0, 1, 2, 3, 4] rfl (xX11_act_108 hG h)
  · replace h := h.2 c
    exact x_sub [0, 1, 2, 3, 4] rfl (xX11_act_108 hG h)
def wX11_act_78 (σ : Sg) (l1 : Int32) (l2 : Int32) (l3 : Int32) (l4 : Int32) (Q : Int32 → Sg → Prop) : Prop :=
  (l1 = (1 : Int32) → (
    wX11_in σ l2 (0 : Int32) (7 : Int32) (fun r2 σ1 =>
    (r2 = 0 → (
      wX11_act_166 σ1 l1 l2 l3 l4 Q
    )) ∧ (¬ r2 = 0 → (
      wX11_act_93 σ1 l1 l2 l3 l4 Q
    ))
    )
  )) ∧ (¬ l1 = (1 : Int32) → (
    wX11_act_93 σ l1 l2 l3 l4 Q
  ))
set_option maxRecDepth 100000 in
set_option maxHeartbeats 4000000 in
theorem xX11_act_78 {G : Gx} (hG : gLy G = LyM) {σ : Sg} {l1 : Int32} {l2 : Int32} {l3 : Int32} {l4 : Int32} {Q : Int32 → Sg → Prop} (h : wX11_act_78 σ l1 l2 l3 l4 Q) : X G mX11_act 3 78 [(0, .ref (gad G 0)), (1, .int l1), (2, .int l2), (3, .int l3), (4, .int l4)] [] σ (qi Q) := by
  unfold wX11_act_78 at h
  refine x_iload_n dX11_act_78 rfl 1 rfl ?_
  refine x_iconst (v := (1 : Int32)) dX11_act_79 rfl ?_
  refine x_icmp_ne dX11_act_80 93 (by decide) (fun c => ?_) (fun c => ?_)
  · replace h := h.1 c
    refine x_iload_n dX11_act_83 rfl 2 rfl ?_
    refine x_iconst (v := (0 : Int32)) dX11_act_84 rfl ?_
    refine x_bipush (v := (7 : Int32)) dX11_act_85 rfl ?_
    refine x_callSi [_, _, _] ms_X11_in lk_X11_107 rfl ⟨by decide, by decide⟩ rfl (Nat.le_of_ble_eq_true rfl) dX11_act_87 (ct_X11_in hG h) (fun r2 σ1 h => ?_)
    refine x_if_eq dX11_act_90 166 (by decide) (fun c => ?_) (fun c => ?_)
    · replace h := h.1 c
      exact x_sub [0, 1, 2, 3, 4] rfl (xX11_act_166 hG h)
    · replace h := h.2 c
      exact x_sub [0, 1, 2, 3, 4] rfl (xX11_act_93 hG h)
  · replace h := h.2 c
    exact x_sub [0, 1, 2, 3, 4] rfl (xX11_act_93 hG h)
def wX11_act_58 (σ : Sg) (l1 : Int32) (l2 : Int32) (l3 : Int32) (l4 : Int32) (l5 : Int32) (Q : Int32 → Sg → Prop) : Prop :=
  ((l5 / (4 : Int32)) = (1 : Int32) → (
    wX11_noAct σ l4 (fun r2 σ1 =>
    (r2 = 0 → (
      wX11_act_78 σ1 l1 l2 l3 l4 Q
    )) ∧ (¬ r2 = 0 → (
      Q (-101 : Int32) σ1
    ))
    )
  )) ∧ (¬ (l5 / (4 : Int32)) = (1 : Int32) → (
    wX11_act_78 σ l1 l2 l3 l4 Q
  ))
set_option maxRecDepth 100000 in
set_option maxHeartbeats 4000000 in
theorem xX11_act_58 {G : Gx} (hG : gLy G = LyM) {σ : Sg} {l1 : Int32} {l2 : Int32} {l3 : Int32} {l4 : Int32} {l5 : Int32} {Q : Int32 → Sg → Prop} (h : wX11_act_58 σ l1 l2 l3 l4 l5 Q) : X G mX11_act 3 58 [(0, .ref (gad G 0)), (1, .int l1), (2, .int l2), (3, .int l3), (4, .int l4), (5, .int l5)] [] σ (qi Q) := by
  unfold wX11_act_58 at h
  refine x_iload dX11_act_58 5 rfl ?_
  refine x_iconst (v := (4 : Int32)) dX11_act_60 rfl ?_
  refine x_idiv dX11_act_61 (by decide) ?_
  refine x_iconst (v := (1 : Int32)) dX11_act_62 rfl ?_
  refine x_icmp_ne dX11_act_63 78 (by decide) (fun c => ?_) (fun c => ?_)
  · replace h := h.1 c
    refine x_aload_n dX11_act_66 rfl 0 rfl ?_
    refine x_iload dX11_act_67 4 rfl ?_
    refine x_callVi [_] hG mv_X11_noAct lk_X11_118 rfl rfl rfl ⟨by decide, by decide⟩ rfl (Nat.le_of_ble_eq_true rfl) dX11_act_69 (ct_X11_noAct hG h) (fun r2 σ1 h => ?_)
    refine x_if_eq dX11_act_72 78 (by decide) (fun c => ?_) (fun c => ?_)
    · replace h := h.1 c
      exact x_sub [0, 1, 2, 3, 4] rfl (xX11_act_78 hG h)
    · replace h := h.2 c
      refine x_bipush (v := (-101 : Int32)) dX11_act_75 rfl ?_
      exact x_iret rfl dX11_act_77 ⟨_, rfl, h⟩
  · replace h := h.2 c
    exact x_sub [0, 1, 2, 3, 4] rfl (xX11_act_78 hG h)
def wX11_act_40 (σ : Sg) (l1 : Int32) (l2 : Int32) (l3 : Int32) (l4 : Int32) (l5 : Int32) (Q : Int32 → Sg → Prop) : Prop :=
  (((l5 / (2 : Int32)) - (l5 / (2 : Int32)) / (2 : Int32) * (2 : Int32)) = (1 : Int32) → (
    wX11_noAct σ l3 (fun r2 σ1 =>
    (r2 = 0 → (
      wX11_act_58 σ1 l1 l2 l3 l4 l5 Q
    )) ∧ (¬ r2 = 0 → (
      Q (-101 : Int32) σ1
    ))
    )
  )) ∧ (¬ ((l5 / (2 : Int32)) - (l5 / (2 : Int32)) / (2 : Int32) * (2 : Int32)) = (1 : Int32) → (
    wX11_act_58 σ l1 l2 l3 l4 l5 Q
  ))
set_option maxRecDepth 100000 in
set_option maxHeartbeats 4000000 in
theorem xX11_act_40 {G : Gx} (hG : gLy G = LyM) {σ : Sg} {l1 : Int32} {l2 : Int32} {l3 : Int32} {l4 : Int32} {l5 : Int32} {Q : Int32 → Sg → Prop} (h : wX11_act_40 σ l1 l2 l3 l4 l5 Q) : X G mX11_act 3 40 [(0, .ref (gad G 0)), (1, .int l1), (2, .int l2), (3, .int l3), (4, .int l4), (5, .int l5)] [] σ (qi Q) := by
  unfold wX11_act_40 at h
  refine x_iload dX11_act_40 5 rfl ?_
  refine x_iconst (v := (2 : Int32)) dX11_act_42 rfl ?_
  refine x_idiv dX11_act_43 (by decide) ?_
  refine x_iconst (v := (2 : Int32)) dX11_act_44 rfl ?_
  refine x_irem dX11_act_45 (by decide) ?_
  refine x_iconst (v := (1 : Int32)) dX11_act_46 rfl ?_
  refine x_icmp_ne dX11_act_47 58 (by decide) (fun c => ?_) (fun c => ?_)
  · replace h := h.1 c
    refine x_aload_n dX11_act_50 rfl 0 rfl ?_
    refine x_iload_n dX11_act_51 rfl 3 rfl ?_
    refine x_callVi [_] hG mv_X11_noAct lk_X11_118 rfl rfl rfl ⟨by decide, by decide⟩ rfl (Nat.le_of_ble_eq_true rfl) dX11_act_52 (ct_X11_noAct hG h) (fun r2 σ1 h => ?_)
    refine x_if_ne dX11_act_55 75 (by decide) (fun c => ?_) (fun c => ?_)
    · replace h := h.1 c
      exact x_sub [0, 1, 2, 3, 4, 5] rfl (xX11_act_58 hG h)
    · replace h := h.2 c
      refine x_bipush (v := (-101 : Int32)) dX11_act_75 rfl ?_
      exact x_iret rfl dX11_act_77 ⟨_, rfl, h⟩
  · replace h := h.2 c
    exact x_sub [0, 1, 2, 3, 4, 5] rfl (xX11_act_58 hG h)
def wX11_act (σ : Sg) (l1 : Int32) (l2 : Int32) (l3 : Int32) (l4 : Int32) (Q : Int32 → Sg → Prop) : Prop :=
  let σ1 := wI σ 0 55 (0 : Int32)
  wX11_in σ1 l1 (0 : Int32) (31 : Int32) (fun r3 σ2 =>
  (r3 = 0 → (
    Q (-102 : Int32) σ2
  )) ∧ (¬ r3 = 0 → (
    wX11_actsOf σ2 l1 (fun r5 σ4 =>
    ((r5 - r5 / (2 : Int32) * (2 : Int32)) = (1 : Int32) → (
      wX11_noAct σ4 l2 (fun r7 σ6 =>
      (r7 = 0 → (
        wX11_act_40 σ6 l1 l2 l3 l4 r5 Q
      )) ∧ (¬ r7 = 0 → (
        Q (-101 : Int32) σ6
      ))
      )
    )) ∧ (¬ (r5 - r5 / (2 : Int32) * (2 : Int32)) = (1 : Int32) → (
      wX11_act_40 σ4 l1 l2 l3 l4 r5 Q
    ))
    )
  ))
  )
set_option maxRecDepth 100000 in
set_option maxHeartbeats 4000000 in
theorem xX11_act {G : Gx} (hG : gLy G = LyM) {σ : Sg} {l1 : Int32} {l2 : Int32} {l3 : Int32} {l4 : Int32} {Q : Int32 → Sg → Prop} (h : wX11_act σ l1 l2 l3 l4 Q) : X G mX11_act 3 0 [(0, .ref (gad G 0)), (1, .int l1), (2, .int l2), (3, .int l3), (4, .int l4)] [] σ (qi Q) := by
  unfold wX11_act at h
  refine x_aload_n dX11_act_0 rfl 0 rfl ?_
  refine x_iconst (v := (0 : Int32)) dX11_act_1 rfl ?_
  refine x_putI hG fp_X11_111 dX11_act_2 ?_
  refine x_iload_n dX11_act_5 rfl 1 rfl ?_
  refine x_iconst (v := (0 : Int32)) dX11_act_6 rfl ?_
  refine x_bipush (v := (31 : Int32)) dX11_act_7 rfl ?_
  refine x_callSi [_, _, _] ms_X11_in lk_X11_107 rfl ⟨by decide, by decide⟩ rfl (Nat.le_of_ble_eq_true rfl) dX11_act_9 (ct_X11_in hG h) (fun r3 σ2 h => ?_)
  refine x_if_ne dX11_act_12 18 (by decide) (fun c => ?_) (fun c => ?_)
  · replace h := h.1 c
    refine x_bipush (v := (-102 : Int32)) dX11_act_15 rfl ?_
    exact x_iret rfl dX11_act_17 ⟨_, rfl, h⟩
  · replace h := h.2 c
    refine x_iload_n dX11_act_18 rfl 1 rfl ?_
    refine x_callSi [_] ms_X11_actsOf lk_X11_114 rfl ⟨by decide, by decide⟩ rfl (Nat.le_of_ble_eq_true rfl) dX11_act_19 (ct_X11_actsOf hG h) (fun r5 σ4 h => ?_)
    refine x_istore dX11_act_22 (Nat.le_of_ble_eq_true rfl) (lv' := [(5, _), (0, _), (1, _), (2, _), (3, _), (4, _)]) rfl ?_
    refine x_iload dX11_act_24 0 rfl ?_
    refine x_iconst (v := (2 : Int32)) dX11_act_26 rfl ?_
    refine x_irem dX11_act_27 (by decide) ?_
    refine x_iconst (v := (1 : Int32)) dX11_act_28 rfl ?_
    refine x_icmp_ne dX11_act_29 40 (by decide) (fun c => ?_) (fun c => ?_)
    · replace h := h.1 c
      refine x_aload_n dX11_act_32 rfl 1 rfl ?_
      refine x_iload_n dX11_act_33 rfl 3 rfl ?_
      refine x_callVi [_] hG mv_X11_noAct lk_X11_118 rfl rfl rfl ⟨by decide, by decide⟩ rfl (Nat.le_of_ble_eq_true rfl) dX11_act_34 (ct_X11_noAct hG h) (fun r7 σ6 h => ?_)
      refine x_if_ne dX11_act_37 75 (by decide) (fun c => ?_) (fun c => ?_)
      · replace h := h.1 c
        exact x_sub [1, 2, 3, 4, 5, 0] rfl (xX11_act_40 hG h)
      · replace h := h.2 c
        refine x_bipush (v := (-101 : Int32)) dX11_act_75 rfl ?_
        exact x_iret rfl dX11_act_77 ⟨_, rfl, h⟩
    · replace h := h.2 c
      exact x_sub [1, 2, 3, 4, 5, 0] rfl (xX11_act_40 hG h)
theorem ct_X11_act {G : Gx} (hG : gLy G = LyM) {σ : Sg} {l1 : Int32} {l2 : Int32} {l3 : Int32} {l4 : Int32} {Q : Int32 → Sg → Prop} (h : wX11_act σ l1 l2 l3 l4 Q) : CT G mX11_act 3 [.ref (gad G 0), .int l1, .int l2, .int l3, .int l4] σ (qi Q) := ct_of rfl (Nat.le_of_ble_eq_true rfl) rfl (xX11_act hG h)
/-! X11_told told -/
def wX11_told (σ : Sg) (l1 : Int32) (l2 : Int32) (Q : Int32 → Sg → Prop) : Prop :=
  let σ1 := wI σ 0 55 (0 : Int32)
  wX11_noAct σ1 l1 (fun r3 σ2 =>
  (r3 = 0 → (
    (l2 = 0 → (
      vp_in l1 60 ∧
      Q (sI σ2 1 (l1).toNatClampNeg) σ2
    )) ∧
    (l2 = 1 → (
      vp_in l1 60 ∧
      Q (sI σ2 2 (l1).toNatClampNeg) σ2
    )) ∧
    (l2 = 2 → (
      vp_in l1 60 ∧
      Q (sI σ2 3 (l1).toNatClampNeg) σ2
    )) ∧
    (l2 = 3 → (
      vp_in l1 60 ∧
      Q (sI σ2 4 (l1).toNatClampNeg) σ2
    )) ∧
    (¬ l2 = 0 → ¬ l2 = 1 → ¬ l2 = 2 → ¬ l2 = 3 → (
      Q (-102 : Int32) σ2
    ))
  )) ∧ (¬ r3 = 0 → (
    Q (-101 : Int32) σ2
  ))
  )
set_option maxRecDepth 100000 in
set_option maxHeartbeats 4000000 in
theorem xX11_told {G : Gx} (hG : gLy G = LyM) {σ : Sg} {l1 : Int32} {l2 : Int32} {Q : Int32 → Sg → Prop} (h : wX11_told σ l1 l2 Q) : X G mX11_told 3 0 [(0, .ref (gad G 0)), (1, .int l1), (2, .int l2)] [] σ (qi Q) := by
  unfold wX11_told at h
  refine x_aload_n dX11_told_0 rfl 0 rfl ?_
  refine x_iconst (v := (0 : Int32)) dX11_told_1 rfl ?_
  refine x_putI hG fp_X11_111 dX11_told_2 ?_
  refine x_aload_n dX11_told_5 rfl 0 rfl ?_
  refine x_iload_n dX11_told_6 rfl 1 rfl ?_
  refine x_callVi [_] hG mv_X11_noAct lk_X11_118 rfl rfl rfl ⟨by decide, by decide⟩ rfl (Nat.le_of_ble_eq_true rfl) dX11_told_7 (ct_X11_noAct hG h) (fun r3 σ2 h => ?_)
  refine x_if_eq dX11_told_10 16 (by decide) (fun c => ?_) (fun c => ?_)
  · replace h := h.1 c
    refine x_iload_n dX11_told_16 rfl 2 rfl ?_
    refine x_case (0 : Int32) (fun c => ?_) (fun c0 => ?_)
    · refine x_tblIn (0 : Int32) 48 c dX11_told_17 (by decide) (by decide) rfl (by decide) ?_
      replace h := h.1 c
      refine x_aload_n dX11_told_48 rfl 0 rfl ?_
      refine x_getR (q := 1) hG fg_X11_7 dX11_told_49 ?_
      refine x_iload_n dX11_told_52 rfl 1 rfl ?_
      refine x_ialdv hG rfl dX11_told_53 h.1 rfl ?_
      replace h := h.2
      exact x_iret rfl dX11_told_54 ⟨_, rfl, h⟩
    replace h := h.2
    refine x_case (1 : Int32) (fun c => ?_) (fun c1 => ?_)
    · refine x_tblIn (1 : Int32) 55 c dX11_told_17 (by decide) (by decide) rfl (by decide) ?_
      replace h := h.1 c
      refine x_aload_n dX11_told_55 rfl 0 rfl ?_
      refine x_getR (q := 2) hG fg_X11_13 dX11_told_56 ?_
      refine x_iload_n dX11_told_59 rfl 1 rfl ?_
      refine x_ialdv hG rfl dX11_told_60 h.1 rfl ?_
      replace h := h.2
      exact x_iret rfl dX11_told_61 ⟨_, rfl, h⟩
    replace h := h.2
    refine x_case (2 : Int32) (fun c => ?_) (fun c2 => ?_)
    · refine x_tblIn (2 : Int32) 62 c dX11_told_17 (by decide) (by decide) rfl (by decide) ?_
      replace h := h.1 c
      refine x_aload_n dX11_told_62 rfl 0 rfl ?_
      refine x_getR (q := 3) hG fg_X11_16 dX11_told_63 ?_
      refine x_iload_n dX11_told_66 rfl 1 rfl ?_
      refine x_ialdv hG rfl dX11_told_67 h.1 rfl ?_
      replace h := h.2
      exact x_iret rfl dX11_told_68 ⟨_, rfl, h⟩
    replace h := h.2
    refine x_case (3 : Int32) (fun c => ?_) (fun c3 => ?_)
    · refine x_tblIn (3 : Int32) 69 c dX11_told_17 (by decide) (by decide) rfl (by decide) ?_
      replace h := h.1 c
      refine x_aload_n dX11_told_69 rfl 0 rfl ?_
      refine x_getR (q := 4) hG fg_X11_19 dX11_told_70 ?_
      refine x_iload_n dX11_told_73 rfl 1 rfl ?_
      refine x_ialdv hG rfl dX11_told_74 h.1 rfl ?_
      replace h := h.2
      exact x_iret rfl dX11_told_75 ⟨_, rfl, h⟩
    replace h := h.2
    replace h := h c0 c1 c2 c3
    refine x_tblOut [0, 1, 2, 3] 4 76 (by decide) (by decide) (List.forall_mem_cons.mpr ⟨c0, List.forall_mem_cons.mpr ⟨c1, List.forall_mem_cons.mpr ⟨c2, List.forall_mem_cons.mpr ⟨c3, fun _ h => absurd h List.not_mem_nil⟩⟩⟩⟩) dX11_told_17 (by decide) ?_
    refine x_bipush (v := (-102 : Int32)) dX11_told_76 rfl ?_
    exact x_iret rfl dX11_told_78 ⟨_, rfl, h⟩
  · replace h := h.2 c
    refine x_bipush (v := (-101 : Int32)) dX11_told_13 rfl ?_
    exact x_iret rfl dX11_told_15 ⟨_, rfl, h⟩
theorem ct_X11_told {G : Gx} (hG : gLy G = LyM) {σ : Sg} {l1 : Int32} {l2 : Int32} {Q : Int32 → Sg → Prop} (h : wX11_told σ l1 l2 Q) : CT G mX11_told 3 [.ref (gad G 0), .int l1, .int l2] σ (qi Q) := ct_of rfl (Nat.le_of_ble_eq_true rfl) rfl (xX11_told hG h)
/-! X11_value value -/
def wX11_value (σ : Sg) (l1 : Int32) (l2 : Int32) (Q : Sg → Prop) : Prop :=
  let σ1 := wI σ 0 36 (1 : Int32)
  let σ2 := wI σ1 0 39 l1
  let σ3 := wI σ2 0 40 l2
  Q σ3
set_option maxRecDepth 100000 in
set_option maxHeartbeats 4000000 in
theorem xX11_value {G : Gx} (hG : gLy G = LyM) {σ : Sg} {l1 : Int32} {l2 : Int32} {Q : Sg → Prop} (h : wX11_value σ l1 l2 Q) : X G mX11_value 1 0 [(0, .ref (gad G 0)), (1, .int l1), (2, .int l2)] [] σ (qv Q) := by
  unfold wX11_value at h
  refine x_aload_n dX11_value_0 rfl 0 rfl ?_
  refine x_iconst (v := (1 : Int32)) dX11_value_1 rfl ?_
  refine x_putI hG fp_X11_122 dX11_value_2 ?_
  refine x_aload_n dX11_value_5 rfl 0 rfl ?_
  refine x_iload_n dX11_value_6 rfl 1 rfl ?_
  refine x_putI hG fp_X11_125 dX11_value_7 ?_
  refine x_aload_n dX11_value_10 rfl 0 rfl ?_
  refine x_iload_n dX11_value_11 rfl 2 rfl ?_
  refine x_putI hG fp_X11_128 dX11_value_12 ?_
  exact x_vret rfl dX11_value_15 ⟨rfl, h⟩
theorem ct_X11_value {G : Gx} (hG : gLy G = LyM) {σ : Sg} {l1 : Int32} {l2 : Int32} {Q : Sg → Prop} (h : wX11_value σ l1 l2 Q) : CT G mX11_value 1 [.ref (gad G 0), .int l1, .int l2] σ (qv Q) := ct_of rfl (Nat.le_of_ble_eq_true rfl) rfl (xX11_value hG h)
/-! X11_start start -/
def wX11_start (σ : Sg) (l1 : Int32) (l2 : Int32) (Q : Sg → Prop) : Prop :=
  let σ1 := wI σ 0 36 (0 : Int32)
  let σ2 := wI σ1 0 37 l1
  let σ3 := wI σ2 0 38 l2
  Q σ3
set_option maxRecDepth 100000 in
set_option maxHeartbeats 4000000 in
theorem xX11_start {G : Gx} (hG : gLy G = LyM) {σ : Sg} {l1 : Int32} {l2 : Int32} {Q : Sg → Prop} (h : wX11_start σ l1 l2 Q) : X G mX11_start 1 0 [(0, .ref (gad G 0)), (1, .int l1), (2, .int l2)] [] σ (qv Q) := by
  unfold wX11_start at h
  refine x_aload_n dX11_start_0 rfl 0 rfl ?_
  refine x_iconst (v := (0 : Int32)) dX11_start_1 rfl ?_
  refine x_putI hG fp_X11_122 dX11_start_2 ?_
  refine x_aload_n dX11_start_5 rfl 0 rfl ?_
  refine x_iload_n dX11_start_6 rfl 1 rfl ?_
  refine x_putI hG fp_X11_131 dX11_start_7 ?_
  refine x_aload_n dX11_start_10 rfl 0 rfl ?_
  refine x_iload_n dX11_start_11 rfl 2 rfl ?_
  refine x_putI hG fp_X11_134 dX11_start_12 ?_
  exact x_vret rfl dX11_start_15 ⟨rfl, h⟩
theorem ct_X11_start {G : Gx} (hG : gLy G = LyM) {σ : Sg} {l1 : Int32} {l2 : Int32} {Q : Sg → Prop} (h : wX11_start σ l1 l2 Q) : CT G mX11_start 1 [.ref (gad G 0), .int l1, .int l2] σ (qv Q) := ct_of rfl (Nat.le_of_ble_eq_true rfl) rfl (xX11_start hG h)
/-! X11_finish finish -/
def wX11_finish (σ : Sg) (l1 : Int32) (l2 : Int32) (Q : Sg → Prop) : Prop :=
  let σ1 := wI σ 0 36 (3 : Int32)
  let σ2 := wI σ1 0 41 l1
  let σ3 := wI σ2 0 42 (0 : Int32)
  let σ4 := wI σ3 0 43 l2
  Q σ4
set_option maxRecDepth 100000 in
set_option maxHeartbeats 4000000 in
theorem xX11_finish {G : Gx} (hG : gLy G = LyM) {σ : Sg} {l1 : Int32} {l2 : Int32} {Q : Sg → Prop} (h : wX11_finish σ l1 l2 Q) : X G mX11_finish 1 0 [(0, .ref (gad G 0)), (1, .int l1), (2, .int l2)] [] σ (qv Q) := by
  unfold wX11_finish at h
  refine x_aload_n dX11_finish_0 rfl 0 rfl ?_
  refine x_iconst (v := (3 : Int32)) dX11_finish_1 rfl ?_
  refine x_putI hG fp_X11_122 dX11_finish_2 ?_
  refine x_aload_n dX11_finish_5 rfl 0 rfl ?_
  refine x_iload_n dX11_finish_6 rfl 1 rfl ?_
  refine x_putI hG fp_X11_137 dX11_finish_7 ?_
  refine x_aload_n dX11_finish_10 rfl 0 rfl ?_
  refine x_iconst (v := (0 : Int32)) dX11_finish_11 rfl ?_
  refine x_putI hG fp_X11_140 dX11_finish_12 ?_
  refine x_aload_n dX11_finish_15 rfl 0 rfl ?_
  refine x_iload_n dX11_finish_16 rfl 2 rfl ?_
  refine x_putI hG fp_X11_143 dX11_finish_17 ?_
  exact x_vret rfl dX11_finish_20 ⟨rfl, h⟩
theorem ct_X11_finish {G : Gx} (hG : gLy G = LyM) {σ : Sg} {l1 : Int32} {l2 : Int32} {Q : Sg → Prop} (h : wX11_finish σ l1 l2 Q) : CT G mX11_finish 1 [.ref (gad G 0), .int l1, .int l2] σ (qv Q) := ct_of rfl (Nat.le_of_ble_eq_true rfl) rfl (xX11_finish hG h)
/-! X11_fail fail -/
def wX11_fail (σ : Sg) (l1 : Int32) (l2 : Int32) (l3 : Int32) (Q : Sg → Prop) : Prop :=
  let σ1 := wI σ 0 44 ((sI σ 0 44) + (1 : Int32))
  ((20 : Int32) < ((sI σ 0 44) + (1 : Int32)) → (
    wX11_finish σ1 (10 : Int32) l3 (fun σ2 =>
    Q σ2
    )
  )) ∧ (¬ (20 : Int32) < ((sI σ 0 44) + (1 : Int32)) → (
    let σ3 := wI σ1 0 36 (2 : Int32)
    let σ4 := wI σ3 0 41 l1
    let σ5 := wI σ4 0 42 l2
    let σ6 := wI σ5 0 43 l3
    Q σ6
  ))
set_option maxRecDepth 100000 in
set_option maxHeartbeats 4000000 in
theorem xX11_fail {G : Gx} (hG : gLy G = LyM) {σ : Sg} {l1 : Int32} {l2 : Int32} {l3 : Int32} {Q : Sg → Prop} (h : wX11_fail σ l1 l2 l3 Q) : X G mX11_fail 2 0 [(0, .ref (gad G 0)), (1, .int l1), (2, .int l2), (3, .int l3)] [] σ (qv Q) := by
  unfold wX11_fail at h
  refine x_aload_n dX11_fail_0 rfl 0 rfl ?_
  refine x_dup dX11_fail_1 rfl ?_
  refine x_getIv hG fg_X11_146 dX11_fail_2 rfl ?_
  refine x_iconst (v := (1 : Int32)) dX11_fail_5 rfl ?_
  refine x_iadd dX11_fail_6 ?_
  refine x_putI hG fp_X11_146 dX11_fail_7 ?_
  refine x_aload_n dX11_fail_10 rfl 0 rfl ?_
  refine x_getIv hG fg_X11_146 dX11_fail_11 rd_hit ?_
  refine x_bipush (v := (20 : Int32)) dX11_fail_14 rfl ?_
  refine x_icmp_le dX11_fail_16 29 (by decide) (fun c => ?_) (fun c => ?_)
  · replace h := h.1 c
    refine x_aload_n dX11_fail_19 rfl 0 rfl ?_
    refine x_bipush (v := (10 : Int32)) dX11_fail_20 rfl ?_
    refine x_iload_n dX11_fail_22 rfl 3 rfl ?_
    refine x_callVv [_, _] hG mv_X11_finish lk_X11_149 rfl rfl rfl ⟨by decide, by decide⟩ rfl (Nat.le_of_ble_eq_true rfl) dX11_fail_23 (ct_X11_finish hG h) (fun σ2 h => ?_)
    refine x_goto dX11_fail_26 49 (by decide) ?_
    exact x_vret rfl dX11_fail_49 ⟨rfl, h⟩
  · replace h := h.2 c
    refine x_aload_n dX11_fail_29 rfl 0 rfl ?_
    refine x_iconst (v := (2 : Int32)) dX11_fail_30 rfl ?_
    refine x_putI hG fp_X11_122 dX11_fail_31 ?_
    refine x_aload_n dX11_fail_34 rfl 0 rfl ?_
    refine x_iload_n dX11_fail_35 rfl 1 rfl ?_
    refine x_putI hG fp_X11_137 dX11_fail_36 ?_
    refine x_aload_n dX11_fail_39 rfl 0 rfl ?_
    refine x_iload_n dX11_fail_40 rfl 2 rfl ?_
    refine x_putI hG fp_X11_140 dX11_fail_41 ?_
    refine x_aload_n dX11_fail_44 rfl 0 rfl ?_
    refine x_iload_n dX11_fail_45 rfl 3 rfl ?_
    refine x_putI hG fp_X11_143 dX11_fail_46 ?_
    exact x_vret rfl dX11_fail_49 ⟨rfl, h⟩
theorem ct_X11_fail {G : Gx} (hG : gLy G = LyM) {σ : Sg} {l1 : Int32} {l2 : Int32} {l3 : Int32} {Q : Sg → Prop} (h : wX11_fail σ l1 l2 l3 Q) : CT G mX11_fail 2 [.ref (gad G 0), .int l1, .int l2, .int l3] σ (qv Q) := ct_of rfl (Nat.le_of_ble_eq_true rfl) rfl (xX11_fail hG h)
/-! X11_newThing newThing -/
def wX11_newThing_24 : Nat → Sg → Int32 → Int32 → (Int32 → Sg → Prop) → Prop
  | 0 => fun _ _ _ _ => False
  | n + 1 => fun σ l2 l3 Q =>
  (l3 < (16 : Int32) → (
    vp_in (((16 : Int32) * l2) + l3) 3520 ∧
    let σ1 := wI σ 6 ((((16 : Int32) * l2) + l3)).toNatClampNeg (1 : Int32)
    vp_in (((16 : Int32) * l2) + l3) 3520 ∧
    let σ2 := wI σ1 7 ((((16 : Int32) * l2) + l3)).toNatClampNeg (0 : Int32)
    wX11_newThing_24 n σ2 l2 (l3 + (1 : Int32)) Q
  )) ∧ (¬ l3 < (16 : Int32) → (
    Q l2 σ
  ))
set_option maxRecDepth 100000 in
set_option maxHeartbeats 4000000 in
theorem xX11_newThing_24 {G : Gx} (hG : gLy G = LyM) {Q : Int32 → Sg → Prop} (n : Nat) : ∀ {σ : Sg} {l2 : Int32} {l3 : Int32}, wX11_newThing_24 n σ l2 l3 Q → X G mX11_newThing 1 24 [(0, .ref (gad G 0)), (2, .int l2), (3, .int l3)] [] σ (qi Q) := by
  induction n with
  | zero => intro σ l2 l3 h; exact False.elim h
  | succ n ih =>
  intro σ l2 l3 h
  unfold wX11_newThing_24 at h
  refine x_iload_n dX11_newThing_24 rfl 2 rfl ?_
  refine x_bipush (v := (16 : Int32)) dX11_newThing_25 rfl ?_
  refine x_icmp_ge dX11_newThing_27 60 (by decide) (fun c => ?_) (fun c => ?_)
  · replace h := h.1 c
    refine x_aload_n dX11_newThing_30 rfl 0 rfl ?_
    refine x_getR (q := 6) hG fg_X11_25 dX11_newThing_31 ?_
    refine x_bipush (v := (16 : Int32)) dX11_newThing_34 rfl ?_
    refine x_iload_n dX11_newThing_36 rfl 1 rfl ?_
    refine x_imul dX11_newThing_37 ?_
    refine x_iload_n dX11_newThing_38 rfl 2 rfl ?_
    refine x_iadd dX11_newThing_39 ?_
    refine x_iconst (v := (1 : Int32)) dX11_newThing_40 rfl ?_
    refine x_iast hG rfl dX11_newThing_41 h.1 ?_
    replace h := h.2
    refine x_aload_n dX11_newThing_42 rfl 0 rfl ?_
    refine x_getR (q := 7) hG fg_X11_28 dX11_newThing_43 ?_
    refine x_bipush (v := (16 : Int32)) dX11_newThing_46 rfl ?_
    refine x_iload_n dX11_newThing_48 rfl 1 rfl ?_
    refine x_imul dX11_newThing_49 ?_
    refine x_iload_n dX11_newThing_50 rfl 2 rfl ?_
    refine x_iadd dX11_newThing_51 ?_
    refine x_iconst (v := (0 : Int32)) dX11_newThing_52 rfl ?_
    refine x_iast hG rfl dX11_newThing_53 h.1 ?_
    replace h := h.2
    refine x_iinc dX11_newThing_54 2 rfl (v := _ + (1 : Int32)) rfl (Nat.le_of_ble_eq_true rfl) (lv' := [(3, _), (0, _), (2, _)]) rfl ?_
    refine x_goto dX11_newThing_57 24 (by decide) ?_
    exact x_sub [1, 2, 0] rfl (ih h)
  · replace h := h.2 c
    refine x_iload_n dX11_newThing_60 rfl 1 rfl ?_
    exact x_iret rfl dX11_newThing_61 ⟨_, rfl, h⟩
def wX11_newThing (σ : Sg) (l1 : Int32) (Q : Int32 → Sg → Prop) : Prop :=
  let σ1 := wI σ 0 6 ((sI σ 0 6) + (1 : Int32))
  vp_in (sI σ 0 6) 220 ∧
  let σ2 := wI σ1 5 ((sI σ 0 6)).toNatClampNeg l1
  ∃ n, wX11_newThing_24 n σ2 (sI σ 0 6) (0 : Int32) Q
set_option maxRecDepth 100000 in
set_option maxHeartbeats 4000000 in
theorem xX11_newThing {G : Gx} (hG : gLy G = LyM) {σ : Sg} {l1 : Int32} {Q : Int32 → Sg → Prop} (h : wX11_newThing σ l1 Q) : X G mX11_newThing 1 0 [(0, .ref (gad G 0)), (1, .int l1)] [] σ (qi Q) := by
  unfold wX11_newThing at h
  refine x_aload_n dX11_newThing_0 rfl 0 rfl ?_
  refine x_getIv hG fg_X11_153 dX11_newThing_1 rfl ?_
  refine x_istore_n dX11_newThing_4 rfl (Nat.le_of_ble_eq_true rfl) (lv' := [(2, _), (0, _), (1, _)]) rfl ?_
  refine x_aload_n dX11_newThing_5 rfl 1 rfl ?_
  refine x_dup dX11_newThing_6 rfl ?_
  refine x_getIv hG fg_X11_153 dX11_newThing_7 rfl ?_
  refine x_iconst (v := (1 : Int32)) dX11_newThing_10 rfl ?_
  refine x_iadd dX11_newThing_11 ?_
  refine x_putI hG fp_X11_153 dX11_newThing_12 ?_
  refine x_aload_n dX11_newThing_15 rfl 1 rfl ?_
  refine x_getR (q := 5) hG fg_X11_22 dX11_newThing_16 ?_
  refine x_iload_n dX11_newThing_19 rfl 0 rfl ?_
  refine x_iload_n dX11_newThing_20 rfl 2 rfl ?_
  refine x_iast hG rfl dX11_newThing_21 h.1 ?_
  replace h := h.2
  refine x_iconst (v := (0 : Int32)) dX11_newThing_22 rfl ?_
  refine x_istore_n dX11_newThing_23 rfl (Nat.le_of_ble_eq_true rfl) (lv' := [(3, _), (2, _), (0, _), (1, _)]) rfl ?_
  obtain ⟨n, h⟩ := h
  exact x_sub [2, 1, 0] rfl (xX11_newThing_24 hG n h)
theorem ct_X11_newThing {G : Gx} (hG : gLy G = LyM) {σ : Sg} {l1 : Int32} {Q : Int32 → Sg → Prop} (h : wX11_newThing σ l1 Q) : CT G mX11_newThing 1 [.ref (gad G 0), .int l1] σ (qi Q) := ct_of rfl (Nat.le_of_ble_eq_true rfl) rfl (xX11_newThing hG h)
/-! X11_newFrame newFrame -/
def wX11_newFrame_17 : Nat → Sg → Int32 → Int32 → (Int32 → Sg → Prop) → Prop
  | 0 => fun _ _ _ _ => False
  | n + 1 => fun σ l1 l2 Q =>
  (l2 < (8 : Int32) → (
    vp_in (((8 : Int32) * l1) + l2) 1760 ∧
    let σ1 := wI σ 13 ((((8 : Int32) * l1) + l2)).toNatClampNeg (1 : Int32)
    vp_in (((8 : Int32) * l1) + l2) 1760 ∧
    let σ2 := wI σ1 14 ((((8 : Int32) * l1) + l2)).toNatClampNeg (0 : Int32)
    wX11_newFrame_17 n σ2 l1 (l2 + (1 : Int32)) Q
  )) ∧ (¬ l2 < (8 : Int32) → (
    Q l1 σ
  ))
set_option maxRecDepth 100000 in
set_option maxHeartbeats 4000000 in
theorem xX11_newFrame_17 {G : Gx} (hG : gLy G = LyM) {Q : Int32 → Sg → Prop} (n : Nat) : ∀ {σ : Sg} {l1 : Int32} {l2 : Int32}, wX11_newFrame_17 n σ l1 l2 Q → X G mX11_newFrame 1 17 [(0, .ref (gad G 0)), (1, .int l1), (2, .int l2)] [] σ (qi Q) := by
  induction n with
  | zero => intro σ l1 l2 h; exact False.elim h
  | succ n ih =>
  intro σ l1 l2 h
  unfold wX11_newFrame_17 at h
  refine x_iload_n dX11_newFrame_17 rfl 2 rfl ?_
  refine x_bipush (v := (8 : Int32)) dX11_newFrame_18 rfl ?_
  refine x_icmp_ge dX11_newFrame_20 53 (by decide) (fun c => ?_) (fun c => ?_)
  · replace h := h.1 c
    refine x_aload_n dX11_newFrame_23 rfl 0 rfl ?_
    refine x_getR (q := 13) hG fg_X11_46 dX11_newFrame_24 ?_
    refine x_bipush (v := (8 : Int32)) dX11_newFrame_27 rfl ?_
    refine x_iload_n dX11_newFrame_29 rfl 1 rfl ?_
    refine x_imul dX11_newFrame_30 ?_
    refine x_iload_n dX11_newFrame_31 rfl 2 rfl ?_
    refine x_iadd dX11_newFrame_32 ?_
    refine x_iconst (v := (1 : Int32)) dX11_newFrame_33 rfl ?_
    refine x_iast hG rfl dX11_newFrame_34 h.1 ?_
    replace h := h.2
    refine x_aload_n dX11_newFrame_35 rfl 0 rfl ?_
    refine x_getR (q := 14) hG fg_X11_49 dX11_newFrame_36 ?_
    refine x_bipush (v := (8 : Int32)) dX11_newFrame_39 rfl ?_
    refine x_iload_n dX11_newFrame_41 rfl 1 rfl ?_
    refine x_imul dX11_newFrame_42 ?_
    refine x_iload_n dX11_newFrame_43 rfl 2 rfl ?_
    refine x_iadd dX11_newFrame_44 ?_
    refine x_iconst (v := (0 : Int32)) dX11_newFrame_45 rfl ?_
    refine x_iast hG rfl dX11_newFrame_46 h.1 ?_
    replace h := h.2
    refine x_iinc dX11_newFrame_47 2 rfl (v := _ + (1 : Int32)) rfl (Nat.le_of_ble_eq_true rfl) (lv' := [(2, _), (0, _), (1, _)]) rfl ?_
    refine x_goto dX11_newFrame_50 17 (by decide) ?_
    exact x_sub [1, 2, 0] rfl (ih h)
  · replace h := h.2 c
    refine x_iload_n dX11_newFrame_53 rfl 1 rfl ?_
    exact x_iret rfl dX11_newFrame_54 ⟨_, rfl, h⟩
def wX11_newFrame (σ : Sg) (Q : Int32 → Sg → Prop) : Prop :=
  let σ1 := wI σ 0 15 ((sI σ 0 15) + (1 : Int32))
  ∃ n, wX11_newFrame_17 n σ1 (sI σ 0 15) (0 : Int32) Q
set_option maxRecDepth 100000 in
set_option maxHeartbeats 4000000 in
theorem xX11_newFrame {G : Gx} (hG : gLy G = LyM) {σ : Sg} {Q : Int32 → Sg → Prop} (h : wX11_newFrame σ Q) : X G mX11_newFrame 1 0 [(0, .ref (gad G 0))] [] σ (qi Q) := by
  unfold wX11_newFrame at h
  refine x_aload_n dX11_newFrame_0 rfl 0 rfl ?_
  refine x_getIv hG fg_X11_156 dX11_newFrame_1 rfl ?_
  refine x_istore_n dX11_newFrame_4 rfl (Nat.le_of_ble_eq_true rfl) (lv' := [(1, _), (0, _)]) rfl ?_
  refine x_aload_n dX11_newFrame_5 rfl 1 rfl ?_
  refine x_dup dX11_newFrame_6 rfl ?_
  refine x_getIv hG fg_X11_156 dX11_newFrame_7 rfl ?_
  refine x_iconst (v := (1 : Int32)) dX11_newFrame_10 rfl ?_
  refine x_iadd dX11_newFrame_11 ?_
  refine x_putI hG fp_X11_156 dX11_newFrame_12 ?_
  refine x_iconst (v := (0 : Int32)) dX11_newFrame_15 rfl ?_
  refine x_istore_n dX11_newFrame_16 rfl (Nat.le_of_ble_eq_true rfl) (lv' := [(2, _), (1, _), (0, _)]) rfl ?_
  obtain ⟨n, h⟩ := h
  exact x_sub [2, 1, 0] rfl (xX11_newFrame_17 hG n h)
theorem ct_X11_newFrame {G : Gx} (hG : gLy G = LyM) {σ : Sg} {Q : Int32 → Sg → Prop} (h : wX11_newFrame σ Q) : CT G mX11_newFrame 1 [.ref (gad G 0)] σ (qi Q) := ct_of rfl (Nat.le_of_ble_eq_true rfl) rfl (xX11_newFrame hG h)
/-! X11_write write -/
def wX11_write_119 (σ : Sg) (Q : Sg → Prop) : Prop :=
  let σ1 := wI σ 0 20 ((sI σ 0 20) + (1 : Int32))
  Q σ1
set_option maxRecDepth 100000 in
set_option maxHeartbeats 4000000 in
theorem xX11_write_119 {G : Gx} (hG : gLy G = LyM) {σ : Sg} {Q : Sg → Prop} (h : wX11_write_119 σ Q) : X G mX11_write 1 119 [(0, .ref (gad G 0))] [] σ (qv Q) := by
  unfold wX11_write_119 at h
  refine x_aload_n dX11_write_119 rfl 0 rfl ?_
  refine x_dup dX11_write_120 rfl ?_
  refine x_getIv hG fg_X11_159 dX11_write_121 rfl ?_
  refine x_iconst (v := (1 : Int32)) dX11_write_124 rfl ?_
  refine x_iadd dX11_write_125 ?_
  refine x_putI hG fp_X11_159 dX11_write_126 ?_
  exact x_vret rfl dX11_write_129 ⟨rfl, h⟩
def wX11_write (σ : Sg) (l1 : Int32) (l2 : Int32) (l3 : Int32) (Q : Sg → Prop) : Prop :=
  vp_in (sI σ 0 20) 3600 ∧
  let σ1 := wI σ 17 ((sI σ 0 20)).toNatClampNeg l1
  (l1 < (8 : Int32) → (
    vp_in l1 8 ∧
    vp_in (sI σ 0 20) 3600 ∧
    let σ2 := wI σ1 18 ((sI σ 0 20)).toNatClampNeg (sI σ 15 (l1).toNatClampNeg)
    vp_in l1 8 ∧
    vp_in (sI σ 0 20) 3600 ∧
    let σ3 := wI σ2 19 ((sI σ 0 20)).toNatClampNeg (sI σ 16 (l1).toNatClampNeg)
    vp_in l1 8 ∧
    let σ4 := wI σ3 15 (l1).toNatClampNeg l2
    vp_in l1 8 ∧
    let σ5 := wI σ4 16 (l1).toNatClampNeg l3
    wX11_write_119 σ5 Q
  )) ∧ (¬ l1 < (8 : Int32) → (
    vp_in (l1 - (8 : Int32)) 3520 ∧
    vp_in (sI σ 0 20) 3600 ∧
    let σ6 := wI σ1 18 ((sI σ 0 20)).toNatClampNeg (sI σ 6 ((l1 - (8 : Int32))).toNatClampNeg)
    vp_in (l1 - (8 : Int32)) 3520 ∧
    vp_in (sI σ 0 20) 3600 ∧
    let σ7 := wI σ6 19 ((sI σ 0 20)).toNatClampNeg (sI σ 7 ((l1 - (8 : Int32))).toNatClampNeg)
    vp_in (l1 - (8 : Int32)) 3520 ∧
    let σ8 := wI σ7 6 ((l1 - (8 : Int32))).toNatClampNeg l2
    vp_in (l1 - (8 : Int32)) 3520 ∧
    let σ9 := wI σ8 7 ((l1 - (8 : Int32))).toNatClampNeg l3
    wX11_write_119 σ9 Q
  ))
set_option maxRecDepth 100000 in
set_option maxHeartbeats 4000000 in
theorem xX11_write {G : Gx} (hG : gLy G = LyM) {σ : Sg} {l1 : Int32} {l2 : Int32} {l3 : Int32} {Q : Sg → Prop} (h : wX11_write σ l1 l2 l3 Q) : X G mX11_write 1 0 [(0, .ref (gad G 0)), (1, .int l1), (2, .int l2), (3, .int l3)] [] σ (qv Q) := by
  unfold wX11_write at h
  refine x_aload_n dX11_write_0 rfl 0 rfl ?_
  refine x_getR (q := 17) hG fg_X11_58 dX11_write_1 ?_
  refine x_aload_n dX11_write_4 rfl 0 rfl ?_
  refine x_getIv hG fg_X11_159 dX11_write_5 rfl ?_
  refine x_iload_n dX11_write_8 rfl 1 rfl ?_
  refine x_iast hG rfl dX11_write_9 h.1 ?_
  replace h := h.2
  refine x_iload_n dX11_write_10 rfl 1 rfl ?_
  refine x_bipush (v := (8 : Int32)) dX11_write_11 rfl ?_
  refine x_icmp_ge dX11_write_13 63 (by decide) (fun c => ?_) (fun c => ?_)
  · replace h := h.1 c
    refine x_aload_n dX11_write_16 rfl 0 rfl ?_
    refine x_getR (q := 18) hG fg_X11_61 dX11_write_17 ?_
    refine x_aload_n dX11_write_20 rfl 0 rfl ?_
    refine x_getIv hG fg_X11_159 dX11_write_21 (rd_no (by decide) rfl) ?_
    refine x_aload_n dX11_write_24 rfl 0 rfl ?_
    refine x_getR (q := 15) hG fg_X11_52 dX11_write_25 ?_
    refine x_iload_n dX11_write_28 rfl 1 rfl ?_
    refine x_ialdv hG rfl dX11_write_29 h.1 (rd_no (by decide) rfl) ?_
    replace h := h.2
    refine x_iast hG rfl dX11_write_30 h.1 ?_
    replace h := h.2
    refine x_aload_n dX11_write_31 rfl 0 rfl ?_
    refine x_getR (q := 19) hG fg_X11_64 dX11_write_32 ?_
    refine x_aload_n dX11_write_35 rfl 0 rfl ?_
    refine x_getIv hG fg_X11_159 dX11_write_36 (rd_no (by decide) (rd_no (by decide) rfl)) ?_
    refine x_aload_n dX11_write_39 rfl 0 rfl ?_
    refine x_getR (q := 16) hG fg_X11_55 dX11_write_40 ?_
    refine x_iload_n dX11_write_43 rfl 1 rfl ?_
    refine x_ialdv hG rfl dX11_write_44 h.1 (rd_no (by decide) (rd_no (by decide) rfl)) ?_
    replace h := h.2
    refine x_iast hG rfl dX11_write_45 h.1 ?_
    replace h := h.2
    refine x_aload_n dX11_write_46 rfl 0 rfl ?_
    refine x_getR (q := 15) hG fg_X11_52 dX11_write_47 ?_
    refine x_iload_n dX11_write_50 rfl 1 rfl ?_
    refine x_iload_n dX11_write_51 rfl 2 rfl ?_
    refine x_iast hG rfl dX11_write_52 h.1 ?_
    replace h := h.2
    refine x_aload_n dX11_write_53 rfl 0 rfl ?_
    refine x_getR (q := 16) hG fg_X11_55 dX11_write_54 ?_
    refine x_iload_n dX11_write_57 rfl 1 rfl ?_
    refine x_iload_n dX11_write_58 rfl 3 rfl ?_
    refine x_iast hG rfl dX11_write_59 h.1 ?_
    replace h := h.2
    refine x_goto dX11_write_60 119 (by decide) ?_
    exact x_sub [0] rfl (xX11_write_119 hG h)
  · replace h := h.2 c
    refine x_aload_n dX11_write_63 rfl 0 rfl ?_
    refine x_getR (q := 18) hG fg_X11_61 dX11_write_64 ?_
    refine x_aload_n dX11_write_67 rfl 0 rfl ?_
    refine x_getIv hG fg_X11_159 dX11_write_68 (rd_no (by decide) rfl) ?_
    refine x_aload_n dX11_write_71 rfl 0 rfl ?_
    refine x_getR (q := 6) hG fg_X11_25 dX11_write_72 ?_
    refine x_iload_n dX11_write_75 rfl 1 rfl ?_
    refine x_bipush (v := (8 : Int32)) dX11_write_76 rfl ?_
    refine x_isub dX11_write_78 ?_
    refine x_ialdv hG rfl dX11_write_79 h.1 (rd_no (by decide) rfl) ?_
    replace h := h.2
    refine x_iast hG rfl dX11_write_80 h.1 ?_
    replace h := h.2
    refine x_aload_n dX11_write_81 rfl 0 rfl ?_
    refine x_getR (q := 19) hG fg_X11_64 dX11_write_82 ?_
    refine x_aload_n dX11_write_85 rfl 0 rfl ?_
    refine x_getIv hG fg_X11_159 dX11_write_86 (rd_no (by decide) (rd_no (by decide) rfl)) ?_
    refine x_aload_n dX11_write_89 rfl 0 rfl ?_
    refine x_getR (q := 7) hG fg_X11_28 dX11_write_90 ?_
    refine x_iload_n dX11_write_93 rfl 1 rfl ?_
    refine x_bipush (v := (8 : Int32)) dX11_write_94 rfl ?_
    refine x_isub dX11_write_96 ?_
    refine x_ialdv hG rfl dX11_write_97 h.1 (rd_no (by decide) (rd_no (by decide) rfl)) ?_
    replace h := h.2
    refine x_iast hG rfl dX11_write_98 h.1 ?_
    replace h := h.2
    refine x_aload_n dX11_write_99 rfl 0 rfl ?_
    refine x_getR (q := 6) hG fg_X11_25 dX11_write_100 ?_
    refine x_iload_n dX11_write_103 rfl 1 rfl ?_
    refine x_bipush (v := (8 : Int32)) dX11_write_104 rfl ?_
    refine x_isub dX11_write_106 ?_
    refine x_iload_n dX11_write_107 rfl 2 rfl ?_
    refine x_iast hG rfl dX11_write_108 h.1 ?_
    replace h := h.2
    refine x_aload_n dX11_write_109 rfl 0 rfl ?_
    refine x_getR (q := 7) hG fg_X11_28 dX11_write_110 ?_
    refine x_iload_n dX11_write_113 rfl 1 rfl ?_
    refine x_bipush (v := (8 : Int32)) dX11_write_114 rfl ?_
    refine x_isub dX11_write_116 ?_
    refine x_iload_n dX11_write_117 rfl 3 rfl ?_
    refine x_iast hG rfl dX11_write_118 h.1 ?_
    replace h := h.2
    exact x_sub [0] rfl (xX11_write_119 hG h)
theorem ct_X11_write {G : Gx} (hG : gLy G = LyM) {σ : Sg} {l1 : Int32} {l2 : Int32} {l3 : Int32} {Q : Sg → Prop} (h : wX11_write σ l1 l2 l3 Q) : CT G mX11_write 1 [.ref (gad G 0), .int l1, .int l2, .int l3] σ (qv Q) := ct_of rfl (Nat.le_of_ble_eq_true rfl) rfl (xX11_write hG h)
/-! X11_back back -/
def wX11_back_0 : Nat → Sg → Int32 → (Sg → Prop) → Prop
  | 0 => fun _ _ _ => False
  | n + 1 => fun σ l1 Q =>
  (l1 < (sI σ 0 20) → (
    let σ1 := wI σ 0 20 ((sI σ 0 20) - (1 : Int32))
    vp_in ((sI σ 0 20) - (1 : Int32)) 3600 ∧
    let x2 := (sI σ 17 (((sI σ 0 20) - (1 : Int32))).toNatClampNeg)
    (x2 < (8 : Int32) → (
      vp_in ((sI σ 0 20) - (1 : Int32)) 3600 ∧
      vp_in x2 8 ∧
      let σ3 := wI σ1 15 (x2).toNatClampNeg (sI σ 18 (((sI σ 0 20) - (1 : Int32))).toNatClampNeg)
      vp_in ((sI σ 0 20) - (1 : Int32)) 3600 ∧
      vp_in x2 8 ∧
      let σ4 := wI σ3 16 (x2).toNatClampNeg (sI σ 19 (((sI σ 0 20) - (1 : Int32))).toNatClampNeg)
      wX11_back_0 n σ4 l1 Q
    )) ∧ (¬ x2 < (8 : Int32) → (
      vp_in ((sI σ 0 20) - (1 : Int32)) 3600 ∧
      vp_in (x2 - (8 : Int32)) 3520 ∧
      let σ5 := wI σ1 6 ((x2 - (8 : Int32))).toNatClampNeg (sI σ 18 (((sI σ 0 20) - (1 : Int32))).toNatClampNeg)
      vp_in ((sI σ 0 20) - (1 : Int32)) 3600 ∧
      vp_in (x2 - (8 : Int32)) 3520 ∧
      let σ6 := wI σ5 7 ((x2 - (8 : Int32))).toNatClampNeg (sI σ 19 (((sI σ 0 20) - (1 : Int32))).toNatClampNeg)
      wX11_back_0 n σ6 l1 Q
    ))
  )) ∧ (¬ l1 < (sI σ 0 20) → (
    Q σ
  ))
set_option maxRecDepth 100000 in
set_option maxHeartbeats 4000000 in
theorem xX11_back_0 {G : Gx} (hG : gLy G = LyM) {Q : Sg → Prop} (n : Nat) : ∀ {σ : Sg} {l1 : Int32}, wX11_back_0 n σ l1 Q → X G mX11_back 1 0 [(0, .ref (gad G 0)), (1, .int l1)] [] σ (qv Q) := by
  induction n with
  | zero => intro σ l1 h; exact False.elim h
  | succ n ih =>
  intro σ l1 h
  unfold wX11_back_0 at h
  refine x_aload_n dX11_back_0 rfl 0 rfl ?_
  refine x_getIv hG fg_X11_159 dX11_back_1 rfl ?_
  refine x_iload_n dX11_back_4 rfl 1 rfl ?_
  refine x_icmp_le dX11_back_5 106 (by decide) (fun c => ?_) (fun c => ?_)
  · replace h := h.1 c
    refine x_aload_n dX11_back_8 rfl 0 rfl ?_
    refine x_dup dX11_back_9 rfl ?_
    refine x_getIv hG fg_X11_159 dX11_back_10 rfl ?_
    refine x_iconst (v := (1 : Int32)) dX11_back_13 rfl ?_
    refine x_isub dX11_back_14 ?_
    refine x_putI hG fp_X11_159 dX11_back_15 ?_
    refine x_aload_n dX11_back_18 rfl 0 rfl ?_
    refine x_getR (q := 17) hG fg_X11_58 dX11_back_19 ?_
    refine x_aload_n dX11_back_22 rfl 0 rfl ?_
    refine x_getIv hG fg_X11_159 dX11_back_23 rd_hit ?_
    refine x_ialdv hG rfl dX11_back_26 h.1 (rd_no (by decide) rfl) ?_
    replace h := h.2
    refine x_istore_n dX11_back_27 rfl (Nat.le_of_ble_eq_true rfl) (lv' := [(2, _), (0, _), (1, _)]) rfl ?_
    refine x_iload_n dX11_back_28 rfl 0 rfl ?_
    refine x_bipush (v := (8 : Int32)) dX11_back_29 rfl ?_
    refine x_icmp_ge dX11_back_31 67 (by decide) (fun c => ?_) (fun c => ?_)
    · replace h := h.1 c
      refine x_aload_n dX11_back_34 rfl 1 rfl ?_
      refine x_getR (q := 15) hG fg_X11_52 dX11_back_35 ?_
      refine x_iload_n dX11_back_38 rfl 0 rfl ?_
      refine x_aload_n dX11_back_39 rfl 1 rfl ?_
      refine x_getR (q := 18) hG fg_X11_61 dX11_back_40 ?_
      refine x_aload_n dX11_back_43 rfl 1 rfl ?_
      refine x_getIv hG fg_X11_159 dX11_back_44 rd_hit ?_
      refine x_ialdv hG rfl dX11_back_47 h.1 (rd_no (by decide) rfl) ?_
      replace h := h.2
      refine x_iast hG rfl dX11_back_48 h.1 ?_
      replace h := h.2
      refine x_aload_n dX11_back_49 rfl 1 rfl ?_
      refine x_getR (q := 16) hG fg_X11_55 dX11_back_50 ?_
      refine x_iload_n dX11_back_53 rfl 0 rfl ?_
      refine x_aload_n dX11_back_54 rfl 1 rfl ?_
      refine x_getR (q := 19) hG fg_X11_64 dX11_back_55 ?_
      refine x_aload_n dX11_back_58 rfl 1 rfl ?_
      refine x_getIv hG fg_X11_159 dX11_back_59 (rd_no (by decide) rd_hit) ?_
      refine x_ialdv hG rfl dX11_back_62 h.1 (rd_no (by decide) (rd_no (by decide) rfl)) ?_
      replace h := h.2
      refine x_iast hG rfl dX11_back_63 h.1 ?_
      replace h := h.2
      refine x_goto dX11_back_64 103 (by decide) ?_
      refine x_goto dX11_back_103 0 (by decide) ?_
      exact x_sub [1, 2] rfl (ih h)
    · replace h := h.2 c
      refine x_aload_n dX11_back_67 rfl 1 rfl ?_
      refine x_getR (q := 6) hG fg_X11_25 dX11_back_68 ?_
      refine x_iload_n dX11_back_71 rfl 0 rfl ?_
      refine x_bipush (v := (8 : Int32)) dX11_back_72 rfl ?_
      refine x_isub dX11_back_74 ?_
      refine x_aload_n dX11_back_75 rfl 1 rfl ?_
      refine x_getR (q := 18) hG fg_X11_61 dX11_back_76 ?_
      refine x_aload_n dX11_back_79 rfl 1 rfl ?_
      refine x_getIv hG fg_X11_159 dX11_back_80 rd_hit ?_
      refine x_ialdv hG rfl dX11_back_83 h.1 (rd_no (by decide) rfl) ?_
      replace h := h.2
      refine x_iast hG rfl dX11_back_84 h.1 ?_
      replace h := h.2
      refine x_aload_n dX11_back_85 rfl 1 rfl ?_
      refine x_getR (q := 7) hG fg_X11_28 dX11_back_86 ?_
      refine x_iload_n dX11_back_89 rfl 0 rfl ?_
      refine x_bipush (v := (8 : Int32)) dX11_back_90 rfl ?_
      refine x_isub dX11_back_92 ?_
      refine x_aload_n dX11_back_93 rfl 1 rfl ?_
      refine x_getR (q := 19) hG fg_X11_64 dX11_back_94 ?_
      refine x_aload_n dX11_back_97 rfl 1 rfl ?_
      refine x_getIv hG fg_X11_159 dX11_back_98 (rd_no (by decide) rd_hit) ?_
      refine x_ialdv hG rfl dX11_back_101 h.1 (rd_no (by decide) (rd_no (by decide) rfl)) ?_
      replace h := h.2
      refine x_iast hG rfl dX11_back_102 h.1 ?_
      replace h := h.2
      refine x_goto dX11_back_103 0 (by decide) ?_
      exact x_sub [1, 2] rfl (ih h)
  · replace h := h.2 c
    exact x_vret rfl dX11_back_106 ⟨rfl, h⟩
def wX11_back (σ : Sg) (l1 : Int32) (Q : Sg → Prop) : Prop := ∃ n, wX11_back_0 n σ l1 Q
theorem xX11_back {G : Gx} (hG : gLy G = LyM) {σ : Sg} {l1 : Int32} {Q : Sg → Prop} (h : wX11_back σ l1 Q) : X G mX11_back 1 0 [(0, .ref (gad G 0)), (1, .int l1)] [] σ (qv Q) := by
  obtain ⟨n, h⟩ := h
  exact xX11_back_0 hG n h
theorem ct_X11_back {G : Gx} (hG : gLy G = LyM) {σ : Sg} {l1 : Int32} {Q : Sg → Prop} (h : wX11_back σ l1 Q) : CT G mX11_back 1 [.ref (gad G 0), .int l1] σ (qv Q) := ct_of rfl (Nat.le_of_ble_eq_true rfl) rfl (xX11_back hG h)
/-! X11_keepX keepX -/
def wX11_keepX (σ : Sg) (l1 : Int32) (Q : Sg → Prop) : Prop :=
  vp_in l1 220 ∧
  let σ1 := wI σ 24 (l1).toNatClampNeg (sI σ 0 39)
  vp_in l1 220 ∧
  let σ2 := wI σ1 25 (l1).toNatClampNeg (sI σ 0 40)
  vp_in l1 220 ∧
  let σ3 := wI σ2 22 (l1).toNatClampNeg (1 : Int32)
  Q σ3
set_option maxRecDepth 100000 in
set_option maxHeartbeats 4000000 in
theorem xX11_keepX {G : Gx} (hG : gLy G = LyM) {σ : Sg} {l1 : Int32} {Q : Sg → Prop} (h : wX11_keepX σ l1 Q) : X G mX11_keepX 1 0 [(0, .ref (gad G 0)), (1, .int l1)] [] σ (qv Q) := by
  unfold wX11_keepX at h
  refine x_aload_n dX11_keepX_0 rfl 0 rfl ?_
  refine x_getR (q := 24) hG fg_X11_79 dX11_keepX_1 ?_
  refine x_iload_n dX11_keepX_4 rfl 1 rfl ?_
  refine x_aload_n dX11_keepX_5 rfl 0 rfl ?_
  refine x_getIv hG fg_X11_125 dX11_keepX_6 rfl ?_
  refine x_iast hG rfl dX11_keepX_9 h.1 ?_
  replace h := h.2
  refine x_aload_n dX11_keepX_10 rfl 0 rfl ?_
  refine x_getR (q := 25) hG fg_X11_82 dX11_keepX_11 ?_
  refine x_iload_n dX11_keepX_14 rfl 1 rfl ?_
  refine x_aload_n dX11_keepX_15 rfl 0 rfl ?_
  refine x_getIv hG fg_X11_128 dX11_keepX_16 (rd_no (by decide) rfl) ?_
  refine x_iast hG rfl dX11_keepX_19 h.1 ?_
  replace h := h.2
  refine x_aload_n dX11_keepX_20 rfl 0 rfl ?_
  refine x_getR (q := 22) hG fg_X11_73 dX11_keepX_21 ?_
  refine x_iload_n dX11_keepX_24 rfl 1 rfl ?_
  refine x_iconst (v := (1 : Int32)) dX11_keepX_25 rfl ?_
  refine x_iast hG rfl dX11_keepX_26 h.1 ?_
  replace h := h.2
  exact x_vret rfl dX11_keepX_27 ⟨rfl, h⟩
theorem ct_X11_keepX {G : Gx} (hG : gLy G = LyM) {σ : Sg} {l1 : Int32} {Q : Sg → Prop} (h : wX11_keepX σ l1 Q) : CT G mX11_keepX 1 [.ref (gad G 0), .int l1] σ (qv Q) := ct_of rfl (Nat.le_of_ble_eq_true rfl) rfl (xX11_keepX hG h)
/-! X11_keepY keepY -/
def wX11_keepY (σ : Sg) (l1 : Int32) (Q : Sg → Prop) : Prop :=
  vp_in l1 220 ∧
  let σ1 := wI σ 26 (l1).toNatClampNeg (sI σ 0 39)
  vp_in l1 220 ∧
  let σ2 := wI σ1 27 (l1).toNatClampNeg (sI σ 0 40)
  vp_in l1 220 ∧
  let σ3 := wI σ2 22 (l1).toNatClampNeg (2 : Int32)
  Q σ3
set_option maxRecDepth 100000 in
set_option maxHeartbeats 4000000 in
theorem xX11_keepY {G : Gx} (hG : gLy G = LyM) {σ : Sg} {l1 : Int32} {Q : Sg → Prop} (h : wX11_keepY σ l1 Q) : X G mX11_keepY 1 0 [(0, .ref (gad G 0)), (1, .int l1)] [] σ (qv Q) := by
  unfold wX11_keepY at h
  refine x_aload_n dX11_keepY_0 rfl 0 rfl ?_
  refine x_getR (q := 26) hG fg_X11_85 dX11_keepY_1 ?_
  refine x_iload_n dX11_keepY_4 rfl 1 rfl ?_
  refine x_aload_n dX11_keepY_5 rfl 0 rfl ?_
  refine x_getIv hG fg_X11_125 dX11_keepY_6 rfl ?_
  refine x_iast hG rfl dX11_keepY_9 h.1 ?_
  replace h := h.2
  refine x_aload_n dX11_keepY_10 rfl 0 rfl ?_
  refine x_getR (q := 27) hG fg_X11_88 dX11_keepY_11 ?_
  refine x_iload_n dX11_keepY_14 rfl 1 rfl ?_
  refine x_aload_n dX11_keepY_15 rfl 0 rfl ?_
  refine x_getIv hG fg_X11_128 dX11_keepY_16 (rd_no (by decide) rfl) ?_
  refine x_iast hG rfl dX11_keepY_19 h.1 ?_
  replace h := h.2
  refine x_aload_n dX11_keepY_20 rfl 0 rfl ?_
  refine x_getR (q := 22) hG fg_X11_73 dX11_keepY_21 ?_
  refine x_iload_n dX11_keepY_24 rfl 1 rfl ?_
  refine x_iconst (v := (2 : Int32)) dX11_keepY_25 rfl ?_
  refine x_iast hG rfl dX11_keepY_26 h.1 ?_
  replace h := h.2
  exact x_vret rfl dX11_keepY_27 ⟨rfl, h⟩
theorem ct_X11_keepY {G : Gx} (hG : gLy G = LyM) {σ : Sg} {l1 : Int32} {Q : Sg → Prop} (h : wX11_keepY σ l1 Q) : CT G mX11_keepY 1 [.ref (gad G 0), .int l1] σ (qv Q) := ct_of rfl (Nat.le_of_ble_eq_true rfl) rfl (xX11_keepY hG h)
/-! X11_isWhole isWhole -/
def wX11_isWhole_16 (σ : Sg) (l2 : Int32) (s0 : Int32) (Q : Int32 → Sg → Prop) : Prop :=
  wX11_fail σ s0 s0 l2 (fun σ1 =>
  Q (0 : Int32) σ1
  )
set_option maxRecDepth 100000 in
set_option maxHeartbeats 4000000 in
theorem xX11_isWhole_16 {G : Gx} (hG : gLy G = LyM) {σ : Sg} {l2 : Int32} {s0 : Int32} {Q : Int32 → Sg → Prop} (h : wX11_isWhole_16 σ l2 s0 Q) : X G mX11_isWhole 3 16 [(0, .ref (gad G 0)), (2, .int l2)] [.int s0] σ (qi Q) := by
  unfold wX11_isWhole_16 at h
  refine x_istore_n dX11_isWhole_16 rfl (Nat.le_of_ble_eq_true rfl) (lv' := [(3, _), (0, _), (2, _)]) rfl ?_
  refine x_aload_n dX11_isWhole_17 rfl 1 rfl ?_
  refine x_iload_n dX11_isWhole_18 rfl 0 rfl ?_
  refine x_iload_n dX11_isWhole_19 rfl 0 rfl ?_
  refine x_iload_n dX11_isWhole_20 rfl 2 rfl ?_
  refine x_callVv [_, _, _] hG mv_X11_fail lk_X11_180 rfl rfl rfl ⟨by decide, by decide⟩ rfl (Nat.le_of_ble_eq_true rfl) dX11_isWhole_21 (ct_X11_fail hG h) (fun σ1 h => ?_)
  refine x_iconst (v := (0 : Int32)) dX11_isWhole_24 rfl ?_
  exact x_zret rfl bz_0 dX11_isWhole_25 ⟨_, rfl, h⟩
def wX11_isWhole (σ : Sg) (l1 : Int32) (l2 : Int32) (Q : Int32 → Sg → Prop) : Prop :=
  (l1 = 0 → (
    Q (1 : Int32) σ
  )) ∧ (¬ l1 = 0 → (
    (l1 = (1 : Int32) → (
      wX11_isWhole_16 σ l2 (1 : Int32) Q
    )) ∧ (¬ l1 = (1 : Int32) → (
      wX11_isWhole_16 σ l2 (4 : Int32) Q
    ))
  ))
set_option maxRecDepth 100000 in
set_option maxHeartbeats 4000000 in
theorem xX11_isWhole {G : Gx} (hG : gLy G = LyM) {σ : Sg} {l1 : Int32} {l2 : Int32} {Q : Int32 → Sg → Prop} (h : wX11_isWhole σ l1 l2 Q) : X G mX11_isWhole 3 0 [(0, .ref (gad G 0)), (1, .int l1), (2, .int l2)] [] σ (qi Q) := by
  unfold wX11_isWhole at h
  refine x_iload_n dX11_isWhole_0 rfl 1 rfl ?_
  refine x_if_ne dX11_isWhole_1 6 (by decide) (fun c => ?_) (fun c => ?_)
  · replace h := h.1 c
    refine x_iconst (v := (1 : Int32)) dX11_isWhole_4 rfl ?_
    exact x_zret rfl bz_1 dX11_isWhole_5 ⟨_, rfl, h⟩
  · replace h := h.2 c
    refine x_iload_n dX11_isWhole_6 rfl 1 rfl ?_
    refine x_iconst (v := (1 : Int32)) dX11_isWhole_7 rfl ?_
    refine x_icmp_ne dX11_isWhole_8 15 (by decide) (fun c => ?_) (fun c => ?_)
    · replace h := h.1 c
      refine x_iconst (v := (1 : Int32)) dX11_isWhole_11 rfl ?_
      refine x_goto dX11_isWhole_12 16 (by decide) ?_
      exact x_sub [0, 2] rfl (xX11_isWhole_16 hG h)
    · replace h := h.2 c
      refine x_iconst (v := (4 : Int32)) dX11_isWhole_15 rfl ?_
      exact x_sub [0, 2] rfl (xX11_isWhole_16 hG h)
theorem ct_X11_isWhole {G : Gx} (hG : gLy G = LyM) {σ : Sg} {l1 : Int32} {l2 : Int32} {Q : Int32 → Sg → Prop} (h : wX11_isWhole σ l1 l2 Q) : CT G mX11_isWhole 3 [.ref (gad G 0), .int l1, .int l2] σ (qi Q) := ct_of rfl (Nat.le_of_ble_eq_true rfl) rfl (xX11_isWhole hG h)
/-! X11_failBy failBy -/
def wX11_failBy (σ : Sg) (l1 : Int32) (l2 : Int32) (Q : Sg → Prop) : Prop :=
  wX11_fail σ l1 l1 l2 (fun σ1 =>
  Q σ1
  )
set_option maxRecDepth 100000 in
set_option maxHeartbeats 4000000 in
theorem xX11_failBy {G : Gx} (hG : gLy G = LyM) {σ : Sg} {l1 : Int32} {l2 : Int32} {Q : Sg → Prop} (h : wX11_failBy σ l1 l2 Q) : X G mX11_failBy 3 0 [(0, .ref (gad G 0)), (1, .int l1), (2, .int l2)] [] σ (qv Q) := by
  unfold wX11_failBy at h
  refine x_aload_n dX11_failBy_0 rfl 0 rfl ?_
  refine x_iload_n dX11_failBy_1 rfl 1 rfl ?_
  refine x_iload_n dX11_failBy_2 rfl 1 rfl ?_
  refine x_iload_n dX11_failBy_3 rfl 2 rfl ?_
  refine x_callVv [_, _, _] hG mv_X11_fail lk_X11_180 rfl rfl rfl ⟨by decide, by decide⟩ rfl (Nat.le_of_ble_eq_true rfl) dX11_failBy_4 (ct_X11_fail hG h) (fun σ1 h => ?_)
  exact x_vret rfl dX11_failBy_7 ⟨rfl, h⟩
theorem ct_X11_failBy {G : Gx} (hG : gLy G = LyM) {σ : Sg} {l1 : Int32} {l2 : Int32} {Q : Sg → Prop} (h : wX11_failBy σ l1 l2 Q) : CT G mX11_failBy 3 [.ref (gad G 0), .int l1, .int l2] σ (qv Q) := ct_of rfl (Nat.le_of_ble_eq_true rfl) rfl (xX11_failBy hG h)
/-! X11_isRow isRow -/
def wX11_isRow (σ : Sg) (l0 : Int32) (Q : Int32 → Sg → Prop) : Prop :=
  wX11_in σ l0 (2 : Int32) (4 : Int32) (fun r2 σ1 =>
  bz r2 ∧ Q r2 σ1
  )
set_option maxRecDepth 100000 in
set_option maxHeartbeats 4000000 in
theorem xX11_isRow {G : Gx} (hG : gLy G = LyM) {σ : Sg} {l0 : Int32} {Q : Int32 → Sg → Prop} (h : wX11_isRow σ l0 Q) : X G mX11_isRow 2 0 [(0, .int l0)] [] σ (qi Q) := by
  unfold wX11_isRow at h
  refine x_iload_n dX11_isRow_0 rfl 0 rfl ?_
  refine x_iconst (v := (2 : Int32)) dX11_isRow_1 rfl ?_
  refine x_iconst (v := (4 : Int32)) dX11_isRow_2 rfl ?_
  refine x_callSi [_, _, _] ms_X11_in lk_X11_107 rfl ⟨by decide, by decide⟩ rfl (Nat.le_of_ble_eq_true rfl) dX11_isRow_3 (ct_X11_in hG h) (fun r2 σ1 h => ?_)
  exact x_zret rfl h.1 dX11_isRow_6 ⟨_, rfl, h.2⟩
theorem ct_X11_isRow {G : Gx} (hG : gLy G = LyM) {σ : Sg} {l0 : Int32} {Q : Int32 → Sg → Prop} (h : wX11_isRow σ l0 Q) : CT G mX11_isRow 2 [.int l0] σ (qi Q) := ct_of rfl (Nat.le_of_ble_eq_true rfl) rfl (xX11_isRow hG h)
/-! X11_isRowHere isRowHere -/
def wX11_isRowHere_22 (σ : Sg) (l1 : Int32) (Q : Int32 → Sg → Prop) : Prop :=
  wX11_isRow σ l1 (fun r2 σ1 =>
  bz r2 ∧ Q r2 σ1
  )
set_option maxRecDepth 100000 in
set_option maxHeartbeats 4000000 in
theorem xX11_isRowHere_22 {G : Gx} (hG : gLy G = LyM) {σ : Sg} {l1 : Int32} {Q : Int32 → Sg → Prop} (h : wX11_isRowHere_22 σ l1 Q) : X G mX11_isRowHere 4 22 [(1, .int l1)] [] σ (qi Q) := by
  unfold wX11_isRowHere_22 at h
  refine x_iload_n dX11_isRowHere_22 rfl 0 rfl ?_
  refine x_callSi [_] ms_X11_isRow lk_X11_246 rfl ⟨by decide, by decide⟩ rfl (Nat.le_of_ble_eq_true rfl) dX11_isRowHere_23 (ct_X11_isRow hG h) (fun r2 σ1 h => ?_)
  exact x_zret rfl h.1 dX11_isRowHere_26 ⟨_, rfl, h.2⟩
def wX11_isRowHere_18 (σ : Sg) (l1 : Int32) (l2 : Int32) (s1 : Int32) (Q : Int32 → Sg → Prop) : Prop :=
  wX11_failBy σ s1 l2 (fun σ1 =>
  wX11_isRowHere_22 σ1 l1 Q
  )
set_option maxRecDepth 100000 in
set_option maxHeartbeats 4000000 in
theorem xX11_isRowHere_18 {G : Gx} (hG : gLy G = LyM) {σ : Sg} {l1 : Int32} {l2 : Int32} {s1 : Int32} {Q : Int32 → Sg → Prop} (h : wX11_isRowHere_18 σ l1 l2 s1 Q) : X G mX11_isRowHere 4 18 [(1, .int l1), (2, .int l2)] [.int s1, .ref (gad G 0)] σ (qi Q) := by
  unfold wX11_isRowHere_18 at h
  refine x_iload_n dX11_isRowHere_18 rfl 1 rfl ?_
  refine x_callVv [_, _] hG mv_X11_failBy lk_X11_243 rfl rfl rfl ⟨by decide, by decide⟩ rfl (Nat.le_of_ble_eq_true rfl) dX11_isRowHere_19 (ct_X11_failBy hG h) (fun σ1 h => ?_)
  exact x_sub [0] rfl (xX11_isRowHere_22 hG h)
def wX11_isRowHere (σ : Sg) (l1 : Int32) (l2 : Int32) (Q : Int32 → Sg → Prop) : Prop :=
  wX11_isRow σ l1 (fun r2 σ1 =>
  (r2 = 0 → (
    (l1 = (1 : Int32) → (
      wX11_isRowHere_18 σ1 l1 l2 (1 : Int32) Q
    )) ∧ (¬ l1 = (1 : Int32) → (
      wX11_isRowHere_18 σ1 l1 l2 (4 : Int32) Q
    ))
  )) ∧ (¬ r2 = 0 → (
    wX11_isRowHere_22 σ1 l1 Q
  ))
  )
set_option maxRecDepth 100000 in
set_option maxHeartbeats 4000000 in
theorem xX11_isRowHere {G : Gx} (hG : gLy G = LyM) {σ : Sg} {l1 : Int32} {l2 : Int32} {Q : Int32 → Sg → Prop} (h : wX11_isRowHere σ l1 l2 Q) : X G mX11_isRowHere 4 0 [(0, .ref (gad G 0)), (1, .int l1), (2, .int l2)] [] σ (qi Q) := by
  unfold wX11_isRowHere at h
  refine x_iload_n dX11_isRowHere_0 rfl 1 rfl ?_
  refine x_callSi [_] ms_X11_isRow lk_X11_246 rfl ⟨by decide, by decide⟩ rfl (Nat.le_of_ble_eq_true rfl) dX11_isRowHere_1 (ct_X11_isRow hG h) (fun r2 σ1 h => ?_)
  refine x_if_ne dX11_isRowHere_4 22 (by decide) (fun c => ?_) (fun c => ?_)
  · replace h := h.1 c
    refine x_aload_n dX11_isRowHere_7 rfl 0 rfl ?_
    refine x_iload_n dX11_isRowHere_8 rfl 1 rfl ?_
    refine x_iconst (v := (1 : Int32)) dX11_isRowHere_9 rfl ?_
    refine x_icmp_ne dX11_isRowHere_10 17 (by decide) (fun c => ?_) (fun c => ?_)
    · replace h := h.1 c
      refine x_iconst (v := (1 : Int32)) dX11_isRowHere_13 rfl ?_
      refine x_goto dX11_isRowHere_14 18 (by decide) ?_
      exact x_sub [1, 2] rfl (xX11_isRowHere_18 hG h)
    · replace h := h.2 c
      refine x_iconst (v := (4 : Int32)) dX11_isRowHere_17 rfl ?_
      exact x_sub [1, 2] rfl (xX11_isRowHere_18 hG h)
  · replace h := h.2 c
    exact x_sub [1] rfl (xX11_isRowHere_22 hG h)
theorem ct_X11_isRowHere {G : Gx} (hG : gLy G = LyM) {σ : Sg} {l1 : Int32} {l2 : Int32} {Q : Int32 → Sg → Prop} (h : wX11_isRowHere σ l1 l2 Q) : CT G mX11_isRowHere 4 [.ref (gad G 0), .int l1, .int l2] σ (qi Q) := ct_of rfl (Nat.le_of_ble_eq_true rfl) rfl (xX11_isRowHere hG h)
/-! X11_isLink isLink -/
def wX11_isLink_32 (σ : Sg) (l2 : Int32) (l3 : Int32) (s1 : Int32) (Q : Int32 → Sg → Prop) : Prop :=
  wX11_failBy σ s1 l2 (fun σ1 =>
  bz l3 ∧ Q l3 σ1
  )
set_option maxRecDepth 100000 in
set_option maxHeartbeats 4000000 in
theorem xX11_isLink_32 {G : Gx} (hG : gLy G = LyM) {σ : Sg} {l2 : Int32} {l3 : Int32} {s1 : Int32} {Q : Int32 → Sg → Prop} (h : wX11_isLink_32 σ l2 l3 s1 Q) : X G mX11_isLink 4 32 [(2, .int l2), (3, .int l3)] [.int s1, .ref (gad G 0)] σ (qi Q) := by
  unfold wX11_isLink_32 at h
  refine x_iload_n dX11_isLink_32 rfl 0 rfl ?_
  refine x_callVv [_, _] hG mv_X11_failBy lk_X11_243 rfl rfl rfl ⟨by decide, by decide⟩ rfl (Nat.le_of_ble_eq_true rfl) dX11_isLink_33 (ct_X11_failBy hG h) (fun σ1 h => ?_)
  refine x_iload_n dX11_isLink_36 rfl 1 rfl ?_
  exact x_zret rfl h.1 dX11_isLink_37 ⟨_, rfl, h.2⟩
def wX11_isLink_16 (σ : Sg) (l1 : Int32) (l2 : Int32) (s0 : Int32) (Q : Int32 → Sg → Prop) : Prop :=
  (s0 = 0 → (
    (l1 = (1 : Int32) → (
      wX11_isLink_32 σ l2 s0 (1 : Int32) Q
    )) ∧ (¬ l1 = (1 : Int32) → (
      wX11_isLink_32 σ l2 s0 (4 : Int32) Q
    ))
  )) ∧ (¬ s0 = 0 → (
    bz s0 ∧ Q s0 σ
  ))
set_option maxRecDepth 100000 in
set_option maxHeartbeats 4000000 in
theorem xX11_isLink_16 {G : Gx} (hG : gLy G = LyM) {σ : Sg} {l1 : Int32} {l2 : Int32} {s0 : Int32} {Q : Int32 → Sg → Prop} (h : wX11_isLink_16 σ l1 l2 s0 Q) : X G mX11_isLink 4 16 [(0, .ref (gad G 0)), (1, .int l1), (2, .int l2)] [.int s0] σ (qi Q) := by
  unfold wX11_isLink_16 at h
  refine x_istore_n dX11_isLink_16 rfl (Nat.le_of_ble_eq_true rfl) (lv' := [(3, _), (0, _), (1, _), (2, _)]) rfl ?_
  refine x_iload_n dX11_isLink_17 rfl 0 rfl ?_
  refine x_if_ne dX11_isLink_18 36 (by decide) (fun c => ?_) (fun c => ?_)
  · replace h := h.1 c
    refine x_aload_n dX11_isLink_21 rfl 1 rfl ?_
    refine x_iload_n dX11_isLink_22 rfl 2 rfl ?_
    refine x_iconst (v := (1 : Int32)) dX11_isLink_23 rfl ?_
    refine x_icmp_ne dX11_isLink_24 31 (by decide) (fun c => ?_) (fun c => ?_)
    · replace h := h.1 c
      refine x_iconst (v := (1 : Int32)) dX11_isLink_27 rfl ?_
      refine x_goto dX11_isLink_28 32 (by decide) ?_
      exact x_sub [3, 0] rfl (xX11_isLink_32 hG h)
    · replace h := h.2 c
      refine x_iconst (v := (4 : Int32)) dX11_isLink_31 rfl ?_
      exact x_sub [3, 0] rfl (xX11_isLink_32 hG h)
  · replace h := h.2 c
    refine x_iload_n dX11_isLink_36 rfl 0 rfl ?_
    exact x_zret rfl h.1 dX11_isLink_37 ⟨_, rfl, h.2⟩
def wX11_isLink_11 (σ : Sg) (l1 : Int32) (l2 : Int32) (Q : Int32 → Sg → Prop) : Prop :=
  wX11_isLink_16 σ l1 l2 (1 : Int32) Q
set_option maxRecDepth 100000 in
set_option maxHeartbeats 4000000 in
theorem xX11_isLink_11 {G : Gx} (hG : gLy G = LyM) {σ : Sg} {l1 : Int32} {l2 : Int32} {Q : Int32 → Sg → Prop} (h : wX11_isLink_11 σ l1 l2 Q) : X G mX11_isLink 4 11 [(0, .ref (gad G 0)), (1, .int l1), (2, .int l2)] [] σ (qi Q) := by
  unfold wX11_isLink_11 at h
  refine x_iconst (v := (1 : Int32)) dX11_isLink_11 rfl ?_
  refine x_goto dX11_isLink_12 16 (by decide) ?_
  exact x_sub [0, 1, 2] rfl (xX11_isLink_16 hG h)
def wX11_isLink (σ : Sg) (l1 : Int32) (l2 : Int32) (Q : Int32 → Sg → Prop) : Prop :=
  (l1 = (5 : Int32) → (
    wX11_isLink_11 σ l1 l2 Q
  )) ∧ (¬ l1 = (5 : Int32) → (
    (l1 = (6 : Int32) → (
      wX11_isLink_11 σ l1 l2 Q
    )) ∧ (¬ l1 = (6 : Int32) → (
      wX11_isLink_16 σ l1 l2 (0 : Int32) Q
    ))
  ))
set_option maxRecDepth 100000 in
set_option maxHeartbeats 4000000 in
theorem xX11_isLink {G : Gx} (hG : gLy G = LyM) {σ : Sg} {l1 : Int32} {l2 : Int32} {Q : Int32 → Sg → Prop} (h : wX11_isLink σ l1 l2 Q) : X G mX11_isLink 4 0 [(0, .ref (gad G 0)), (1, .int l1), (2, .int l2)] [] σ (qi Q) := by
  unfold wX11_isLink at h
  refine x_iload_n dX11_isLink_0 rfl 1 rfl ?_
  refine x_iconst (v := (5 : Int32)) dX11_isLink_1 rfl ?_
  refine x_icmp_eq dX11_isLink_2 11 (by decide) (fun c => ?_) (fun c => ?_)
  · replace h := h.1 c
    exact x_sub [0, 1, 2] rfl (xX11_isLink_11 hG h)
  · replace h := h.2 c
    refine x_iload_n dX11_isLink_5 rfl 1 rfl ?_
    refine x_bipush (v := (6 : Int32)) dX11_isLink_6 rfl ?_
    refine x_icmp_ne dX11_isLink_8 15 (by decide) (fun c => ?_) (fun c => ?_)
    · replace h := h.1 c
      exact x_sub [0, 1, 2] rfl (xX11_isLink_11 hG h)
    · replace h := h.2 c
      refine x_iconst (v := (0 : Int32)) dX11_isLink_15 rfl ?_
      exact x_sub [0, 1, 2] rfl (xX11_isLink_16 hG h)
theorem ct_X11_isLink {G : Gx} (hG : gLy G = LyM) {σ : Sg} {l1 : Int32} {l2 : Int32} {Q : Int32 → Sg → Prop} (h : wX11_isLink σ l1 l2 Q) : CT G mX11_isLink 4 [.ref (gad G 0), .int l1, .int l2] σ (qi Q) := ct_of rfl (Nat.le_of_ble_eq_true rfl) rfl (xX11_isLink hG h)
/-! X11_ended ended -/
def wX11_ended (σ : Sg) (l1 : Int32) (Q : Int32 → Sg → Prop) : Prop :=
  let σ1 := wI σ 0 55 (0 : Int32)
  (l1 = 0 → (
    Q (sI σ 0 50) σ1
  )) ∧
  (l1 = 1 → (
    Q (sI σ 0 51) σ1
  )) ∧
  (l1 = 2 → (
    Q (sI σ 0 52) σ1
  )) ∧
  (l1 = 3 → (
    Q (sI σ 0 53) σ1
  )) ∧
  (l1 = 4 → (
    Q (sI σ 0 54) σ1
  )) ∧
  (¬ l1 = 0 → ¬ l1 = 1 → ¬ l1 = 2 → ¬ l1 = 3 → ¬ l1 = 4 → (
    Q (-102 : Int32) σ1
  ))
set_option maxRecDepth 100000 in
set_option maxHeartbeats 4000000 in
theorem xX11_ended {G : Gx} (hG : gLy G = LyM) {σ : Sg} {l1 : Int32} {Q : Int32 → Sg → Prop} (h : wX11_ended σ l1 Q) : X G mX11_ended 1 0 [(0, .ref (gad G 0)), (1, .int l1)] [] σ (qi Q) := by
  unfold wX11_ended at h
  refine x_aload_n dX11_ended_0 rfl 0 rfl ?_
  refine x_iconst (v := (0 : Int32)) dX11_ended_1 rfl ?_
  refine x_putI hG fp_X11_111 dX11_ended_2 ?_
  refine x_iload_n dX11_ended_5 rfl 1 rfl ?_
  refine x_case (0 : Int32) (fun c => ?_) (fun c0 => ?_)
  · refine x_tblIn (0 : Int32) 40 c dX11_ended_6 (by decide) (by decide) rfl (by decide) ?_
    replace h := h.1 c
    refine x_aload_n dX11_ended_40 rfl 0 rfl ?_
    refine x_getIv hG fg_X11_279 dX11_ended_41 (rd_nj (by decide) rfl) ?_
    exact x_iret rfl dX11_ended_44 ⟨_, rfl, h⟩
  replace h := h.2
  refine x_case (1 : Int32) (fun c => ?_) (fun c1 => ?_)
  · refine x_tblIn (1 : Int32) 45 c dX11_ended_6 (by decide) (by decide) rfl (by decide) ?_
    replace h := h.1 c
    refine x_aload_n dX11_ended_45 rfl 0 rfl ?_
    refine x_getIv hG fg_X11_282 dX11_ended_46 (rd_nj (by decide) rfl) ?_
    exact x_iret rfl dX11_ended_49 ⟨_, rfl, h⟩
  replace h := h.2
  refine x_case (2 : Int32) (fun c => ?_) (fun c2 => ?_)
  · refine x_tblIn (2 : Int32) 50 c dX11_ended_6 (by decide) (by decide) rfl (by decide) ?_
    replace h := h.1 c
    refine x_aload_n dX11_ended_50 rfl 0 rfl ?_
    refine x_getIv hG fg_X11_97 dX11_ended_51 (rd_nj (by decide) rfl) ?_
    exact x_iret rfl dX11_ended_54 ⟨_, rfl, h⟩
  replace h := h.2
  refine x_case (3 : Int32) (fun c => ?_) (fun c3 => ?_)
  · refine x_tblIn (3 : Int32) 55 c dX11_ended_6 (by decide) (by decide) rfl (by decide) ?_
    replace h := h.1 c
    refine x_aload_n dX11_ended_55 rfl 0 rfl ?_
    refine x_getIv hG fg_X11_270 dX11_ended_56 (rd_nj (by decide) rfl) ?_
    exact x_iret rfl dX11_ended_59 ⟨_, rfl, h⟩
  replace h := h.2
  refine x_case (4 : Int32) (fun c => ?_) (fun c4 => ?_)
  · refine x_tblIn (4 : Int32) 60 c dX11_ended_6 (by decide) (by decide) rfl (by decide) ?_
    replace h := h.1 c
    refine x_aload_n dX11_ended_60 rfl 0 rfl ?_
    refine x_getIv hG fg_X11_273 dX11_ended_61 (rd_nj (by decide) rfl) ?_
    exact x_iret rfl dX11_ended_64 ⟨_, rfl, h⟩
  replace h := h.2
  replace h := h c0 c1 c2 c3 c4
  refine x_tblOut [0, 1, 2, 3, 4] 5 65 (by decide) (by decide) (List.forall_mem_cons.mpr ⟨c0, List.forall_mem_cons.mpr ⟨c1, List.forall_mem_cons.mpr ⟨c2, List.forall_mem_cons.mpr ⟨c3, List.forall_mem_cons.mpr ⟨c4, fun _ h => absurd h List.not_mem_nil⟩⟩⟩⟩⟩) dX11_ended_6 (by decide) ?_
  refine x_bipush (v := (-102 : Int32)) dX11_ended_65 rfl ?_
  exact x_iret rfl dX11_ended_67 ⟨_, rfl, h⟩
theorem ct_X11_ended {G : Gx} (hG : gLy G = LyM) {σ : Sg} {l1 : Int32} {Q : Int32 → Sg → Prop} (h : wX11_ended σ l1 Q) : CT G mX11_ended 1 [.ref (gad G 0), .int l1] σ (qi Q) := ct_of rfl (Nat.le_of_ble_eq_true rfl) rfl (xX11_ended hG h)
/-! X11_numberOf numberOf -/
def wX11_numberOf (σ : Sg) (l1 : Int32) (l2 : Int32) (Q : Int32 → Sg → Prop) : Prop :=
  (l1 = 0 → (
    Q l2 σ
  )) ∧ (¬ l1 = 0 → (
    wX11_isRow σ l1 (fun r2 σ1 =>
    (r2 = 0 → (
      Q (0 : Int32) σ1
    )) ∧ (¬ r2 = 0 → (
      vp_in l2 220 ∧
      Q (sI σ1 5 (l2).toNatClampNeg) σ1
    ))
    )
  ))
set_option maxRecDepth 100000 in
set_option maxHeartbeats 4000000 in
theorem xX11_numberOf {G : Gx} (hG : gLy G = LyM) {σ : Sg} {l1 : Int32} {l2 : Int32} {Q : Int32 → Sg → Prop} (h : wX11_numberOf σ l1 l2 Q) : X G mX11_numberOf 3 0 [(0, .ref (gad G 0)), (1, .int l1), (2, .int l2)] [] σ (qi Q) := by
  unfold wX11_numberOf at h
  refine x_iload_n dX11_numberOf_0 rfl 1 rfl ?_
  refine x_if_ne dX11_numberOf_1 8 (by decide) (fun c => ?_) (fun c => ?_)
  · replace h := h.1 c
    refine x_iload_n dX11_numberOf_4 rfl 2 rfl ?_
    refine x_goto dX11_numberOf_5 25 (by decide) ?_
    exact x_iret rfl dX11_numberOf_25 ⟨_, rfl, h⟩
  · replace h := h.2 c
    refine x_iload_n dX11_numberOf_8 rfl 1 rfl ?_
    refine x_callSi [_] ms_X11_isRow lk_X11_246 rfl ⟨by decide, by decide⟩ rfl (Nat.le_of_ble_eq_true rfl) dX11_numberOf_9 (ct_X11_isRow hG h) (fun r2 σ1 h => ?_)
    refine x_if_eq dX11_numberOf_12 24 (by decide) (fun c => ?_) (fun c => ?_)
    · replace h := h.1 c
      refine x_iconst (v := (0 : Int32)) dX11_numberOf_24 rfl ?_
      exact x_iret rfl dX11_numberOf_25 ⟨_, rfl, h⟩
    · replace h := h.2 c
      refine x_aload_n dX11_numberOf_15 rfl 0 rfl ?_
      refine x_getR (q := 5) hG fg_X11_22 dX11_numberOf_16 ?_
      refine x_iload_n dX11_numberOf_19 rfl 2 rfl ?_
      refine x_ialdv hG rfl dX11_numberOf_20 h.1 rfl ?_
      replace h := h.2
      refine x_goto dX11_numberOf_21 25 (by decide) ?_
      exact x_iret rfl dX11_numberOf_25 ⟨_, rfl, h⟩
theorem ct_X11_numberOf {G : Gx} (hG : gLy G = LyM) {σ : Sg} {l1 : Int32} {l2 : Int32} {Q : Int32 → Sg → Prop} (h : wX11_numberOf σ l1 l2 Q) : CT G mX11_numberOf 3 [.ref (gad G 0), .int l1, .int l2] σ (qi Q) := ct_of rfl (Nat.le_of_ble_eq_true rfl) rfl (xX11_numberOf hG h)
/-! X11_gave gave -/
def wX11_gave (σ : Sg) (Q : Int32 → Sg → Prop) : Prop :=
  let σ1 := wI σ 0 55 (0 : Int32)
  wX11_numberOf σ1 (sI σ 0 48) (sI σ 0 49) (fun r3 σ2 =>
  Q r3 σ2
  )
set_option maxRecDepth 100000 in
set_option maxHeartbeats 4000000 in
theorem xX11_gave {G : Gx} (hG : gLy G = LyM) {σ : Sg} {Q : Int32 → Sg → Prop} (h : wX11_gave σ Q) : X G mX11_gave 4 0 [(0, .ref (gad G 0))] [] σ (qi Q) := by
  unfold wX11_gave at h
  refine x_aload_n dX11_gave_0 rfl 0 rfl ?_
  refine x_iconst (v := (0 : Int32)) dX11_gave_1 rfl ?_
  refine x_putI hG fp_X11_111 dX11_gave_2 ?_
  refine x_aload_n dX11_gave_5 rfl 0 rfl ?_
  refine x_aload_n dX11_gave_6 rfl 0 rfl ?_
  refine x_getIv hG fg_X11_101 dX11_gave_7 (rd_nj (by decide) rfl) ?_
  refine x_aload_n dX11_gave_10 rfl 0 rfl ?_
  refine x_getIv hG fg_X11_276 dX11_gave_11 (rd_nj (by decide) rfl) ?_
  refine x_callVi [_, _] hG mv_X11_numberOf lk_X11_285 rfl rfl rfl ⟨by decide, by decide⟩ rfl (Nat.le_of_ble_eq_true rfl) dX11_gave_14 (ct_X11_numberOf hG h) (fun r3 σ2 h => ?_)
  exact x_iret rfl dX11_gave_17 ⟨_, rfl, h⟩
theorem ct_X11_gave {G : Gx} (hG : gLy G = LyM) {σ : Sg} {Q : Int32 → Sg → Prop} (h : wX11_gave σ Q) : CT G mX11_gave 4 [.ref (gad G 0)] σ (qi Q) := ct_of rfl (Nat.le_of_ble_eq_true rfl) rfl (xX11_gave hG h)
/-! X11_thrown thrown -/
def wX11_thrown (σ : Sg) (Q : Int32 → Sg → Prop) : Prop :=
  Q (sI σ 0 55) σ
set_option maxRecDepth 100000 in
set_option maxHeartbeats 4000000 in
theorem xX11_thrown {G : Gx} (hG : gLy G = LyM) {σ : Sg} {Q : Int32 → Sg → Prop} (h : wX11_thrown σ Q) : X G mX11_thrown 1 0 [(0, .ref (gad G 0))] [] σ (qi Q) := by
  unfold wX11_thrown at h
  refine x_aload_n dX11_thrown_0 rfl 0 rfl ?_
  refine x_getIv hG fg_X11_111 dX11_thrown_1 rfl ?_
  exact x_iret rfl dX11_thrown_4 ⟨_, rfl, h⟩
theorem ct_X11_thrown {G : Gx} (hG : gLy G = LyM) {σ : Sg} {Q : Int32 → Sg → Prop} (h : wX11_thrown σ Q) : CT G mX11_thrown 1 [.ref (gad G 0)] σ (qi Q) := ct_of rfl (Nat.le_of_ble_eq_true rfl) rfl (xX11_thrown hG h)
/-! X11_place place -/
def wX11_place (σ : Sg) (l1 : Int32) (Q : Int32 → Sg → Prop) : Prop :=
  let σ1 := wI σ 0 55 (0 : Int32)
  wX11_isRow σ1 (sI σ 0 48) (fun r3 σ2 =>
  (r3 = 0 → (
    Q (0 : Int32) σ2
  )) ∧ (¬ r3 = 0 → (
    vp_in (sI σ2 0 49) 220 ∧
    wX11_in σ2 l1 (0 : Int32) ((sI σ2 5 ((sI σ2 0 49)).toNatClampNeg) - (1 : Int32)) (fun r5 σ4 =>
    (r5 = 0 → (
      let σ6 := wI σ4 0 55 (1 : Int32)
      Q (0 : Int32) σ6
    )) ∧ (¬ r5 = 0 → (
      ((sI σ4 0 48) = (2 : Int32) → (
        vp_in (((16 : Int32) * (sI σ4 0 49)) + l1) 3520 ∧
        Q (sI σ4 7 ((((16 : Int32) * (sI σ4 0 49)) + l1)).toNatClampNeg) σ4
      )) ∧ (¬ (sI σ4 0 48) = (2 : Int32) → (
        vp_in (((16 : Int32) * (sI σ4 0 49)) + l1) 3520 ∧
        ((sI σ4 6 ((((16 : Int32) * (sI σ4 0 49)) + l1)).toNatClampNeg) = (1 : Int32) → (
          Q (0 : Int32) σ4
        )) ∧ (¬ (sI σ4 6 ((((16 : Int32) * (sI σ4 0 49)) + l1)).toNatClampNeg) = (1 : Int32) → (
          vp_in (((16 : Int32) * (sI σ4 0 49)) + l1) 3520 ∧
          ((sI σ4 6 ((((16 : Int32) * (sI σ4 0 49)) + l1)).toNatClampNeg) = (5 : Int32) → (
            Q (1 : Int32) σ4
          )) ∧ (¬ (sI σ4 6 ((((16 : Int32) * (sI σ4 0 49)) + l1)).toNatClampNeg) = (5 : Int32) → (
            Q (2 : Int32) σ4
          ))
        ))
      ))
    ))
    )
  ))
  )
set_option maxRecDepth 100000 in
set_option maxHeartbeats 4000000 in
theorem xX11_place {G : Gx} (hG : gLy G = LyM) {σ : Sg} {l1 : Int32} {Q : Int32 → Sg → Prop} (h : wX11_place σ l1 Q) : X G mX11_place 3 0 [(0, .ref (gad G 0)), (1, .int l1)] [] σ (qi Q) := by
  unfold wX11_place at h
  refine x_aload_n dX11_place_0 rfl 0 rfl ?_
  refine x_iconst (v := (0 : Int32)) dX11_place_1 rfl ?_
  refine x_putI hG fp_X11_111 dX11_place_2 ?_
  refine x_aload_n dX11_place_5 rfl 0 rfl ?_
  refine x_getIv hG fg_X11_101 dX11_place_6 (rd_nj (by decide) rfl) ?_
  refine x_callSi [_] ms_X11_isRow lk_X11_246 rfl ⟨by decide, by decide⟩ rfl (Nat.le_of_ble_eq_true rfl) dX11_place_9 (ct_X11_isRow hG h) (fun r3 σ2 h => ?_)
  refine x_if_ne dX11_place_12 17 (by decide) (fun c => ?_) (fun c => ?_)
  · replace h := h.1 c
    refine x_iconst (v := (0 : Int32)) dX11_place_15 rfl ?_
    exact x_iret rfl dX11_place_16 ⟨_, rfl, h⟩
  · replace h := h.2 c
    refine x_iload_n dX11_place_17 rfl 1 rfl ?_
    refine x_iconst (v := (0 : Int32)) dX11_place_18 rfl ?_
    refine x_aload_n dX11_place_19 rfl 0 rfl ?_
    refine x_getR (q := 5) hG fg_X11_22 dX11_place_20 ?_
    refine x_aload_n dX11_place_23 rfl 0 rfl ?_
    refine x_getIv hG fg_X11_276 dX11_place_24 rfl ?_
    refine x_ialdv hG rfl dX11_place_27 h.1 rfl ?_
    replace h := h.2
    refine x_iconst (v := (1 : Int32)) dX11_place_28 rfl ?_
    refine x_isub dX11_place_29 ?_
    refine x_callSi [_, _, _] ms_X11_in lk_X11_107 rfl ⟨by decide, by decide⟩ rfl (Nat.le_of_ble_eq_true rfl) dX11_place_30 (ct_X11_in hG h) (fun r5 σ4 h => ?_)
    refine x_if_ne dX11_place_33 43 (by decide) (fun c => ?_) (fun c => ?_)
    · replace h := h.1 c
      refine x_aload_n dX11_place_36 rfl 0 rfl ?_
      refine x_iconst (v := (1 : Int32)) dX11_place_37 rfl ?_
      refine x_putI hG fp_X11_111 dX11_place_38 ?_
      refine x_iconst (v := (0 : Int32)) dX11_place_41 rfl ?_
      exact x_iret rfl dX11_place_42 ⟨_, rfl, h⟩
    · replace h := h.2 c
      refine x_bipush (v := (16 : Int32)) dX11_place_43 rfl ?_
      refine x_aload_n dX11_place_45 rfl 0 rfl ?_
      refine x_getIv hG fg_X11_276 dX11_place_46 rfl ?_
      refine x_imul dX11_place_49 ?_
      refine x_iload_n dX11_place_50 rfl 1 rfl ?_
      refine x_iadd dX11_place_51 ?_
      refine x_istore_n dX11_place_52 rfl (Nat.le_of_ble_eq_true rfl) (lv' := [(2, _), (0, _), (1, _)]) rfl ?_
      refine x_aload_n dX11_place_53 rfl 1 rfl ?_
      refine x_getIv hG fg_X11_101 dX11_place_54 rfl ?_
      refine x_iconst (v := (2 : Int32)) dX11_place_57 rfl ?_
      refine x_icmp_ne dX11_place_58 68 (by decide) (fun c => ?_) (fun c => ?_)
      · replace h := h.1 c
        refine x_aload_n dX11_place_61 rfl 1 rfl ?_
        refine x_getR (q := 7) hG fg_X11_28 dX11_place_62 ?_
        refine x_iload_n dX11_place_65 rfl 0 rfl ?_
        refine x_ialdv hG rfl dX11_place_66 h.1 rfl ?_
        replace h := h.2
        exact x_iret rfl dX11_place_67 ⟨_, rfl, h⟩
      · replace h := h.2 c
        refine x_aload_n dX11_place_68 rfl 1 rfl ?_
        refine x_getR (q := 6) hG fg_X11_25 dX11_place_69 ?_
        refine x_iload_n dX11_place_72 rfl 0 rfl ?_
        refine x_ialdv hG rfl dX11_place_73 h.1 rfl ?_
        replace h := h.2
        refine x_iconst (v := (1 : Int32)) dX11_place_74 rfl ?_
        refine x_icmp_ne dX11_place_75 82 (by decide) (fun c => ?_) (fun c => ?_)
        · replace h := h.1 c
          refine x_iconst (v := (0 : Int32)) dX11_place_78 rfl ?_
          refine x_goto dX11_place_79 97 (by decide) ?_
          exact x_iret rfl dX11_place_97 ⟨_, rfl, h⟩
        · replace h := h.2 c
          refine x_aload_n dX11_place_82 rfl 1 rfl ?_
          refine x_getR (q := 6) hG fg_X11_25 dX11_place_83 ?_
          refine x_iload_n dX11_place_86 rfl 0 rfl ?_
          refine x_ialdv hG rfl dX11_place_87 h.1 rfl ?_
          replace h := h.2
          refine x_iconst (v := (5 : Int32)) dX11_place_88 rfl ?_
          refine x_icmp_ne dX11_place_89 96 (by decide) (fun c => ?_) (fun c => ?_)
          · replace h := h.1 c
            refine x_iconst (v := (1 : Int32)) dX11_place_92 rfl ?_
            refine x_goto dX11_place_93 97 (by decide) ?_
            exact x_iret rfl dX11_place_97 ⟨_, rfl, h⟩
          · replace h := h.2 c
            refine x_iconst (v := (2 : Int32)) dX11_place_96 rfl ?_
            exact x_iret rfl dX11_place_97 ⟨_, rfl, h⟩
theorem ct_X11_place {G : Gx} (hG : gLy G = LyM) {σ : Sg} {l1 : Int32} {Q : Int32 → Sg → Prop} (h : wX11_place σ l1 Q) : CT G mX11_place 3 [.ref (gad G 0), .int l1] σ (qi Q) := ct_of rfl (Nat.le_of_ble_eq_true rfl) rfl (xX11_place hG h)
/-! X11_box box -/
def wX11_box (σ : Sg) (l1 : Int32) (Q : Int32 → Sg → Prop) : Prop :=
  let σ1 := wI σ 0 55 (0 : Int32)
  wX11_in σ1 l1 (0 : Int32) (7 : Int32) (fun r3 σ2 =>
  (r3 = 0 → (
    Q (-102 : Int32) σ2
  )) ∧ (¬ r3 = 0 → (
    vp_in l1 8 ∧
    Q (sI σ2 15 (l1).toNatClampNeg) σ2
  ))
  )
set_option maxRecDepth 100000 in
set_option maxHeartbeats 4000000 in
theorem xX11_box {G : Gx} (hG : gLy G = LyM) {σ : Sg} {l1 : Int32} {Q : Int32 → Sg → Prop} (h : wX11_box σ l1 Q) : X G mX11_box 2 0 [(0, .ref (gad G 0)), (1, .int l1)] [] σ (qi Q) := by
  unfold wX11_box at h
  refine x_aload_n dX11_box_0 rfl 0 rfl ?_
  refine x_iconst (v := (0 : Int32)) dX11_box_1 rfl ?_
  refine x_putI hG fp_X11_111 dX11_box_2 ?_
  refine x_iload_n dX11_box_5 rfl 1 rfl ?_
  refine x_iconst (v := (0 : Int32)) dX11_box_6 rfl ?_
  refine x_bipush (v := (7 : Int32)) dX11_box_7 rfl ?_
  refine x_callSi [_, _, _] ms_X11_in lk_X11_107 rfl ⟨by decide, by decide⟩ rfl (Nat.le_of_ble_eq_true rfl) dX11_box_9 (ct_X11_in hG h) (fun r3 σ2 h => ?_)
  refine x_if_eq dX11_box_12 24 (by decide) (fun c => ?_) (fun c => ?_)
  · replace h := h.1 c
    refine x_bipush (v := (-102 : Int32)) dX11_box_24 rfl ?_
    exact x_iret rfl dX11_box_26 ⟨_, rfl, h⟩
  · replace h := h.2 c
    refine x_aload_n dX11_box_15 rfl 0 rfl ?_
    refine x_getR (q := 15) hG fg_X11_52 dX11_box_16 ?_
    refine x_iload_n dX11_box_19 rfl 1 rfl ?_
    refine x_ialdv hG rfl dX11_box_20 h.1 rfl ?_
    replace h := h.2
    refine x_goto dX11_box_21 26 (by decide) ?_
    exact x_iret rfl dX11_box_26 ⟨_, rfl, h⟩
theorem ct_X11_box {G : Gx} (hG : gLy G = LyM) {σ : Sg} {l1 : Int32} {Q : Int32 → Sg → Prop} (h : wX11_box σ l1 Q) : CT G mX11_box 2 [.ref (gad G 0), .int l1] σ (qi Q) := ct_of rfl (Nat.le_of_ble_eq_true rfl) rfl (xX11_box hG h)
/-! X11_boxed boxed -/
def wX11_boxed (σ : Sg) (l1 : Int32) (Q : Int32 → Sg → Prop) : Prop :=
  let σ1 := wI σ 0 55 (0 : Int32)
  wX11_in σ1 l1 (0 : Int32) (7 : Int32) (fun r3 σ2 =>
  (r3 = 0 → (
    Q (0 : Int32) σ2
  )) ∧ (¬ r3 = 0 → (
    vp_in l1 8 ∧
    vp_in l1 8 ∧
    wX11_numberOf σ2 (sI σ2 15 (l1).toNatClampNeg) (sI σ2 16 (l1).toNatClampNeg) (fun r5 σ4 =>
    Q r5 σ4
    )
  ))
  )
set_option maxRecDepth 100000 in
set_option maxHeartbeats 4000000 in
theorem xX11_boxed {G : Gx} (hG : gLy G = LyM) {σ : Sg} {l1 : Int32} {Q : Int32 → Sg → Prop} (h : wX11_boxed σ l1 Q) : X G mX11_boxed 4 0 [(0, .ref (gad G 0)), (1, .int l1)] [] σ (qi Q) := by
  unfold wX11_boxed at h
  refine x_aload_n dX11_boxed_0 rfl 0 rfl ?_
  refine x_iconst (v := (0 : Int32)) dX11_boxed_1 rfl ?_
  refine x_putI hG fp_X11_111 dX11_boxed_2 ?_
  refine x_iload_n dX11_boxed_5 rfl 1 rfl ?_
  refine x_iconst (v := (0 : Int32)) dX11_boxed_6 rfl ?_
  refine x_bipush (v := (7 : Int32)) dX11_boxed_7 rfl ?_
  refine x_callSi [_, _, _] ms_X11_in lk_X11_107 rfl ⟨by decide, by decide⟩ rfl (Nat.le_of_ble_eq_true rfl) dX11_boxed_9 (ct_X11_in hG h) (fun r3 σ2 h => ?_)
  refine x_if_eq dX11_boxed_12 34 (by decide) (fun c => ?_) (fun c => ?_)
  · replace h := h.1 c
    refine x_iconst (v := (0 : Int32)) dX11_boxed_34 rfl ?_
    exact x_iret rfl dX11_boxed_35 ⟨_, rfl, h⟩
  · replace h := h.2 c
    refine x_aload_n dX11_boxed_15 rfl 0 rfl ?_
    refine x_aload_n dX11_boxed_16 rfl 0 rfl ?_
    refine x_getR (q := 15) hG fg_X11_52 dX11_boxed_17 ?_
    refine x_iload_n dX11_boxed_20 rfl 1 rfl ?_
    refine x_ialdv hG rfl dX11_boxed_21 h.1 rfl ?_
    replace h := h.2
    refine x_aload_n dX11_boxed_22 rfl 0 rfl ?_
    refine x_getR (q := 16) hG fg_X11_55 dX11_boxed_23 ?_
    refine x_iload_n dX11_boxed_26 rfl 1 rfl ?_
    refine x_ialdv hG rfl dX11_boxed_27 h.1 rfl ?_
    replace h := h.2
    refine x_callVi [_, _] hG mv_X11_numberOf lk_X11_285 rfl rfl rfl ⟨by decide, by decide⟩ rfl (Nat.le_of_ble_eq_true rfl) dX11_boxed_28 (ct_X11_numberOf hG h) (fun r5 σ4 h => ?_)
    refine x_goto dX11_boxed_31 35 (by decide) ?_
    exact x_iret rfl dX11_boxed_35 ⟨_, rfl, h⟩
theorem ct_X11_boxed {G : Gx} (hG : gLy G = LyM) {σ : Sg} {l1 : Int32} {Q : Int32 → Sg → Prop} (h : wX11_boxed σ l1 Q) : CT G mX11_boxed 4 [.ref (gad G 0), .int l1] σ (qi Q) := ct_of rfl (Nat.le_of_ble_eq_true rfl) rfl (xX11_boxed hG h)
/-! X11_same same -/
def wX11_same_68 (σ : Sg) (Q : Int32 → Sg → Prop) : Prop :=
  Q (1 : Int32) σ
set_option maxRecDepth 100000 in
set_option maxHeartbeats 4000000 in
theorem xX11_same_68 {G : Gx} (hG : gLy G = LyM) {σ : Sg} {Q : Int32 → Sg → Prop} (h : wX11_same_68 σ Q) : X G mX11_same 2 68 [] [] σ (qi Q) := by
  unfold wX11_same_68 at h
  refine x_iconst (v := (1 : Int32)) dX11_same_68 rfl ?_
  refine x_goto dX11_same_69 73 (by decide) ?_
  exact x_iret rfl dX11_same_73 ⟨_, rfl, h⟩
def wX11_same (σ : Sg) (l1 : Int32) (l2 : Int32) (Q : Int32 → Sg → Prop) : Prop :=
  let σ1 := wI σ 0 55 (0 : Int32)
  wX11_in σ1 l1 (0 : Int32) (7 : Int32) (fun r3 σ2 =>
  (r3 = 0 → (
    Q (-102 : Int32) σ2
  )) ∧ (¬ r3 = 0 → (
    wX11_in σ2 l2 (0 : Int32) (7 : Int32) (fun r5 σ4 =>
    (r5 = 0 → (
      Q (-102 : Int32) σ4
    )) ∧ (¬ r5 = 0 → (
      vp_in l1 8 ∧
      vp_in l2 8 ∧
      ((sI σ4 15 (l1).toNatClampNeg) = (sI σ4 15 (l2).toNatClampNeg) → (
        vp_in l1 8 ∧
        ((sI σ4 15 (l1).toNatClampNeg) = (1 : Int32) → (
          wX11_same_68 σ4 Q
        )) ∧ (¬ (sI σ4 15 (l1).toNatClampNeg) = (1 : Int32) → (
          vp_in l1 8 ∧
          vp_in l2 8 ∧
          ((sI σ4 16 (l1).toNatClampNeg) = (sI σ4 16 (l2).toNatClampNeg) → (
            wX11_same_68 σ4 Q
          )) ∧ (¬ (sI σ4 16 (l1).toNatClampNeg) = (sI σ4 16 (l2).toNatClampNeg) → (
            Q (0 : Int32) σ4
          ))
        ))
      )) ∧ (¬ (sI σ4 15 (l1).toNatClampNeg) = (sI σ4 15 (l2).toNatClampNeg) → (
        Q (0 : Int32) σ4
      ))
    ))
    )
  ))
  )
set_option maxRecDepth 100000 in
set_option maxHeartbeats 4000000 in
theorem xX11_same {G : Gx} (hG : gLy G = LyM) {σ : Sg} {l1 : Int32} {l2 : Int32} {Q : Int32 → Sg → Prop} (h : wX11_same σ l1 l2 Q) : X G mX11_same 2 0 [(0, .ref (gad G 0)), (1, .int l1), (2, .int l2)] [] σ (qi Q) := by
  unfold wX11_same at h
  refine x_aload_n dX11_same_0 rfl 0 rfl ?_
  refine x_iconst (v := (0 : Int32)) dX11_same_1 rfl ?_
  refine x_putI hG fp_X11_111 dX11_same_2 ?_
  refine x_iload_n dX11_same_5 rfl 1 rfl ?_
  refine x_iconst (v := (0 : Int32)) dX11_same_6 rfl ?_
  refine x_bipush (v := (7 : Int32)) dX11_same_7 rfl ?_
  refine x_callSi [_, _, _] ms_X11_in lk_X11_107 rfl ⟨by decide, by decide⟩ rfl (Nat.le_of_ble_eq_true rfl) dX11_same_9 (ct_X11_in hG h) (fun r3 σ2 h => ?_)
  refine x_if_eq dX11_same_12 25 (by decide) (fun c => ?_) (fun c => ?_)
  · replace h := h.1 c
    refine x_bipush (v := (-102 : Int32)) dX11_same_25 rfl ?_
    exact x_iret rfl dX11_same_27 ⟨_, rfl, h⟩
  · replace h := h.2 c
    refine x_iload_n dX11_same_15 rfl 2 rfl ?_
    refine x_iconst (v := (0 : Int32)) dX11_same_16 rfl ?_
    refine x_bipush (v := (7 : Int32)) dX11_same_17 rfl ?_
    refine x_callSi [_, _, _] ms_X11_in lk_X11_107 rfl ⟨by decide, by decide⟩ rfl (Nat.le_of_ble_eq_true rfl) dX11_same_19 (ct_X11_in hG h) (fun r5 σ4 h => ?_)
    refine x_if_ne dX11_same_22 28 (by decide) (fun c => ?_) (fun c => ?_)
    · replace h := h.1 c
      refine x_bipush (v := (-102 : Int32)) dX11_same_25 rfl ?_
      exact x_iret rfl dX11_same_27 ⟨_, rfl, h⟩
    · replace h := h.2 c
      refine x_aload_n dX11_same_28 rfl 0 rfl ?_
      refine x_getR (q := 15) hG fg_X11_52 dX11_same_29 ?_
      refine x_iload_n dX11_same_32 rfl 1 rfl ?_
      refine x_ialdv hG rfl dX11_same_33 h.1 rfl ?_
      replace h := h.2
      refine x_aload_n dX11_same_34 rfl 0 rfl ?_
      refine x_getR (q := 15) hG fg_X11_52 dX11_same_35 ?_
      refine x_iload_n dX11_same_38 rfl 2 rfl ?_
      refine x_ialdv hG rfl dX11_same_39 h.1 rfl ?_
      replace h := h.2
      refine x_icmp_ne dX11_same_40 72 (by decide) (fun c => ?_) (fun c => ?_)
      · replace h := h.1 c
        refine x_aload_n dX11_same_43 rfl 0 rfl ?_
        refine x_getR (q := 15) hG fg_X11_52 dX11_same_44 ?_
        refine x_iload_n dX11_same_47 rfl 1 rfl ?_
        refine x_ialdv hG rfl dX11_same_48 h.1 rfl ?_
        replace h := h.2
        refine x_iconst (v := (1 : Int32)) dX11_same_49 rfl ?_
        refine x_icmp_eq dX11_same_50 68 (by decide) (fun c => ?_) (fun c => ?_)
        · replace h := h.1 c
          exact x_sub [] rfl (xX11_same_68 hG h)
        · replace h := h.2 c
          refine x_aload_n dX11_same_53 rfl 0 rfl ?_
          refine x_getR (q := 16) hG fg_X11_55 dX11_same_54 ?_
          refine x_iload_n dX11_same_57 rfl 1 rfl ?_
          refine x_ialdv hG rfl dX11_same_58 h.1 rfl ?_
          replace h := h.2
          refine x_aload_n dX11_same_59 rfl 0 rfl ?_
          refine x_getR (q := 16) hG fg_X11_55 dX11_same_60 ?_
          refine x_iload_n dX11_same_63 rfl 2 rfl ?_
          refine x_ialdv hG rfl dX11_same_64 h.1 rfl ?_
          replace h := h.2
          refine x_icmp_ne dX11_same_65 72 (by decide) (fun c => ?_) (fun c => ?_)
          · replace h := h.1 c
            exact x_sub [] rfl (xX11_same_68 hG h)
          · replace h := h.2 c
            refine x_iconst (v := (0 : Int32)) dX11_same_72 rfl ?_
            exact x_iret rfl dX11_same_73 ⟨_, rfl, h⟩
      · replace h := h.2 c
        refine x_iconst (v := (0 : Int32)) dX11_same_72 rfl ?_
        exact x_iret rfl dX11_same_73 ⟨_, rfl, h⟩
theorem ct_X11_same {G : Gx} (hG : gLy G = LyM) {σ : Sg} {l1 : Int32} {l2 : Int32} {Q : Int32 → Sg → Prop} (h : wX11_same σ l1 l2 Q) : CT G mX11_same 2 [.ref (gad G 0), .int l1, .int l2] σ (qi Q) := ct_of rfl (Nat.le_of_ble_eq_true rfl) rfl (xX11_same hG h)
/-! X11_out out -/
def wX11_out (σ : Sg) (l1 : Int32) (Q : Int32 → Sg → Prop) : Prop :=
  let σ1 := wI σ 0 55 (0 : Int32)
  wX11_in σ1 l1 (0 : Int32) ((sI σ 0 24) - (1 : Int32)) (fun r3 σ2 =>
  (r3 = 0 → (
    Q (-102 : Int32) σ2
  )) ∧ (¬ r3 = 0 → (
    vp_in l1 40 ∧
    Q (sI σ2 20 (l1).toNatClampNeg) σ2
  ))
  )
set_option maxRecDepth 100000 in
set_option maxHeartbeats 4000000 in
theorem xX11_out {G : Gx} (hG : gLy G = LyM) {σ : Sg} {l1 : Int32} {Q : Int32 → Sg → Prop} (h : wX11_out σ l1 Q) : X G mX11_out 2 0 [(0, .ref (gad G 0)), (1, .int l1)] [] σ (qi Q) := by
  unfold wX11_out at h
  refine x_aload_n dX11_out_0 rfl 0 rfl ?_
  refine x_iconst (v := (0 : Int32)) dX11_out_1 rfl ?_
  refine x_putI hG fp_X11_111 dX11_out_2 ?_
  refine x_iload_n dX11_out_5 rfl 1 rfl ?_
  refine x_iconst (v := (0 : Int32)) dX11_out_6 rfl ?_
  refine x_aload_n dX11_out_7 rfl 0 rfl ?_
  refine x_getIv hG fg_X11_230 dX11_out_8 (rd_nj (by decide) rfl) ?_
  refine x_iconst (v := (1 : Int32)) dX11_out_11 rfl ?_
  refine x_isub dX11_out_12 ?_
  refine x_callSi [_, _, _] ms_X11_in lk_X11_107 rfl ⟨by decide, by decide⟩ rfl (Nat.le_of_ble_eq_true rfl) dX11_out_13 (ct_X11_in hG h) (fun r3 σ2 h => ?_)
  refine x_if_eq dX11_out_16 28 (by decide) (fun c => ?_) (fun c => ?_)
  · replace h := h.1 c
    refine x_bipush (v := (-102 : Int32)) dX11_out_28 rfl ?_
    exact x_iret rfl dX11_out_30 ⟨_, rfl, h⟩
  · replace h := h.2 c
    refine x_aload_n dX11_out_19 rfl 0 rfl ?_
    refine x_getR (q := 20) hG fg_X11_67 dX11_out_20 ?_
    refine x_iload_n dX11_out_23 rfl 1 rfl ?_
    refine x_ialdv hG rfl dX11_out_24 h.1 rfl ?_
    replace h := h.2
    refine x_goto dX11_out_25 30 (by decide) ?_
    exact x_iret rfl dX11_out_30 ⟨_, rfl, h⟩
theorem ct_X11_out {G : Gx} (hG : gLy G = LyM) {σ : Sg} {l1 : Int32} {Q : Int32 → Sg → Prop} (h : wX11_out σ l1 Q) : CT G mX11_out 2 [.ref (gad G 0), .int l1] σ (qi Q) := ct_of rfl (Nat.le_of_ble_eq_true rfl) rfl (xX11_out hG h)
/-! X11_count count -/
def wX11_count (σ : Sg) (l1 : Int32) (Q : Int32 → Sg → Prop) : Prop :=
  let σ1 := wI σ 0 55 (0 : Int32)
  (l1 = 0 → (
    Q (sI σ 0 0) σ1
  )) ∧ (¬ l1 = 0 → (
    (l1 = (1 : Int32) → (
      Q (sI σ 0 24) σ1
    )) ∧ (¬ l1 = (1 : Int32) → (
      (l1 = (2 : Int32) → (
        Q (sI σ 0 5) σ1
      )) ∧ (¬ l1 = (2 : Int32) → (
        Q (-102 : Int32) σ1
      ))
    ))
  ))
set_option maxRecDepth 100000 in
set_option maxHeartbeats 4000000 in
theorem xX11_count {G : Gx} (hG : gLy G = LyM) {σ : Sg} {l1 : Int32} {Q : Int32 → Sg → Prop} (h : wX11_count σ l1 Q) : X G mX11_count 1 0 [(0, .ref (gad G 0)), (1, .int l1)] [] σ (qi Q) := by
  unfold wX11_count at h
  refine x_aload_n dX11_count_0 rfl 0 rfl ?_
  refine x_iconst (v := (0 : Int32)) dX11_count_1 rfl ?_
  refine x_putI hG fp_X11_111 dX11_count_2 ?_
  refine x_iload_n dX11_count_5 rfl 1 rfl ?_
  refine x_if_ne dX11_count_6 16 (by decide) (fun c => ?_) (fun c => ?_)
  · replace h := h.1 c
    refine x_aload_n dX11_count_9 rfl 0 rfl ?_
    refine x_getIv hG fg_X11_104 dX11_count_10 (rd_nj (by decide) rfl) ?_
    refine x_goto dX11_count_13 42 (by decide) ?_
    exact x_iret rfl dX11_count_42 ⟨_, rfl, h⟩
  · replace h := h.2 c
    refine x_iload_n dX11_count_16 rfl 1 rfl ?_
    refine x_iconst (v := (1 : Int32)) dX11_count_17 rfl ?_
    refine x_icmp_ne dX11_count_18 28 (by decide) (fun c => ?_) (fun c => ?_)
    · replace h := h.1 c
      refine x_aload_n dX11_count_21 rfl 0 rfl ?_
      refine x_getIv hG fg_X11_230 dX11_count_22 (rd_nj (by decide) rfl) ?_
      refine x_goto dX11_count_25 42 (by decide) ?_
      exact x_iret rfl dX11_count_42 ⟨_, rfl, h⟩
    · replace h := h.2 c
      refine x_iload_n dX11_count_28 rfl 1 rfl ?_
      refine x_iconst (v := (2 : Int32)) dX11_count_29 rfl ?_
      refine x_icmp_ne dX11_count_30 40 (by decide) (fun c => ?_) (fun c => ?_)
      · replace h := h.1 c
        refine x_aload_n dX11_count_33 rfl 0 rfl ?_
        refine x_getIv hG fg_X11_258 dX11_count_34 (rd_nj (by decide) rfl) ?_
        refine x_goto dX11_count_37 42 (by decide) ?_
        exact x_iret rfl dX11_count_42 ⟨_, rfl, h⟩
      · replace h := h.2 c
        refine x_bipush (v := (-102 : Int32)) dX11_count_40 rfl ?_
        exact x_iret rfl dX11_count_42 ⟨_, rfl, h⟩
theorem ct_X11_count {G : Gx} (hG : gLy G = LyM) {σ : Sg} {l1 : Int32} {Q : Int32 → Sg → Prop} (h : wX11_count σ l1 Q) : CT G mX11_count 1 [.ref (gad G 0), .int l1] σ (qi Q) := ct_of rfl (Nat.le_of_ble_eq_true rfl) rfl (xX11_count hG h)
/-! X11_clear clear -/
def wX11_clear_22 : Nat → Sg → Int32 → Int32 → (Int32 → Sg → Prop) → Prop
  | 0 => fun _ _ _ _ => False
  | n + 1 => fun σ l1 l2 Q =>
  (l2 < (8 : Int32) → (
    vp_in l2 8 ∧
    let σ1 := wI σ 15 (l2).toNatClampNeg (1 : Int32)
    vp_in l2 8 ∧
    let σ2 := wI σ1 16 (l2).toNatClampNeg (0 : Int32)
    wX11_clear_22 n σ2 l1 (l2 + (1 : Int32)) Q
  )) ∧ (¬ l2 < (8 : Int32) → (
    let σ3 := wI σ 0 48 (1 : Int32)
    let σ4 := wI σ3 0 49 (0 : Int32)
    let σ5 := wI σ4 0 50 (0 : Int32)
    let σ6 := wI σ5 0 51 (0 : Int32)
    let σ7 := wI σ6 0 52 (-1 : Int32)
    let σ8 := wI σ7 0 53 (0 : Int32)
    let σ9 := wI σ8 0 54 (0 : Int32)
    Q l1 σ9
  ))
set_option maxRecDepth 100000 in
set_option maxHeartbeats 4000000 in
theorem xX11_clear_22 {G : Gx} (hG : gLy G = LyM) {Q : Int32 → Sg → Prop} (n : Nat) : ∀ {σ : Sg} {l1 : Int32} {l2 : Int32}, wX11_clear_22 n σ l1 l2 Q → X G mX11_clear 1 22 [(0, .ref (gad G 0)), (1, .int l1), (2, .int l2)] [] σ (qi Q) := by
  induction n with
  | zero => intro σ l1 l2 h; exact False.elim h
  | succ n ih =>
  intro σ l1 l2 h
  unfold wX11_clear_22 at h
  refine x_iload_n dX11_clear_22 rfl 2 rfl ?_
  refine x_bipush (v := (8 : Int32)) dX11_clear_23 rfl ?_
  refine x_icmp_ge dX11_clear_25 48 (by decide) (fun c => ?_) (fun c => ?_)
  · replace h := h.1 c
    refine x_aload_n dX11_clear_28 rfl 0 rfl ?_
    refine x_getR (q := 15) hG fg_X11_52 dX11_clear_29 ?_
    refine x_iload_n dX11_clear_32 rfl 2 rfl ?_
    refine x_iconst (v := (1 : Int32)) dX11_clear_33 rfl ?_
    refine x_iast hG rfl dX11_clear_34 h.1 ?_
    replace h := h.2
    refine x_aload_n dX11_clear_35 rfl 0 rfl ?_
    refine x_getR (q := 16) hG fg_X11_55 dX11_clear_36 ?_
    refine x_iload_n dX11_clear_39 rfl 2 rfl ?_
    refine x_iconst (v := (0 : Int32)) dX11_clear_40 rfl ?_
    refine x_iast hG rfl dX11_clear_41 h.1 ?_
    replace h := h.2
    refine x_iinc dX11_clear_42 2 rfl (v := _ + (1 : Int32)) rfl (Nat.le_of_ble_eq_true rfl) (lv' := [(2, _), (0, _), (1, _)]) rfl ?_
    refine x_goto dX11_clear_45 22 (by decide) ?_
    exact x_sub [1, 2, 0] rfl (ih h)
  · replace h := h.2 c
    refine x_aload_n dX11_clear_48 rfl 0 rfl ?_
    refine x_iconst (v := (1 : Int32)) dX11_clear_49 rfl ?_
    refine x_putI hG fp_X11_101 dX11_clear_50 ?_
    refine x_aload_n dX11_clear_53 rfl 0 rfl ?_
    refine x_iconst (v := (0 : Int32)) dX11_clear_54 rfl ?_
    refine x_putI hG fp_X11_276 dX11_clear_55 ?_
    refine x_aload_n dX11_clear_58 rfl 0 rfl ?_
    refine x_iconst (v := (0 : Int32)) dX11_clear_59 rfl ?_
    refine x_putI hG fp_X11_279 dX11_clear_60 ?_
    refine x_aload_n dX11_clear_63 rfl 0 rfl ?_
    refine x_iconst (v := (0 : Int32)) dX11_clear_64 rfl ?_
    refine x_putI hG fp_X11_282 dX11_clear_65 ?_
    refine x_aload_n dX11_clear_68 rfl 0 rfl ?_
    refine x_iconst (v := (-1 : Int32)) dX11_clear_69 rfl ?_
    refine x_putI hG fp_X11_97 dX11_clear_70 ?_
    refine x_aload_n dX11_clear_73 rfl 0 rfl ?_
    refine x_iconst (v := (0 : Int32)) dX11_clear_74 rfl ?_
    refine x_putI hG fp_X11_270 dX11_clear_75 ?_
    refine x_aload_n dX11_clear_78 rfl 0 rfl ?_
    refine x_iconst (v := (0 : Int32)) dX11_clear_79 rfl ?_
    refine x_putI hG fp_X11_273 dX11_clear_80 ?_
    refine x_iload_n dX11_clear_83 rfl 1 rfl ?_
    exact x_iret rfl dX11_clear_84 ⟨_, rfl, h⟩
def wX11_clear (σ : Sg) (Q : Int32 → Sg → Prop) : Prop :=
  let σ1 := wI σ 0 55 (0 : Int32)
  let σ2 := wI σ1 0 0 (0 : Int32)
  let σ3 := wI σ2 0 24 (0 : Int32)
  ∃ n, wX11_clear_22 n σ3 (sI σ 0 0) (0 : Int32) Q
set_option maxRecDepth 100000 in
set_option maxHeartbeats 4000000 in
theorem xX11_clear {G : Gx} (hG : gLy G = LyM) {σ : Sg} {Q : Int32 → Sg → Prop} (h : wX11_clear σ Q) : X G mX11_clear 1 0 [(0, .ref (gad G 0))] [] σ (qi Q) := by
  unfold wX11_clear at h
  refine x_aload_n dX11_clear_0 rfl 0 rfl ?_
  refine x_iconst (v := (0 : Int32)) dX11_clear_1 rfl ?_
  refine x_putI hG fp_X11_111 dX11_clear_2 ?_
  refine x_aload_n dX11_clear_5 rfl 0 rfl ?_
  refine x_getIv hG fg_X11_104 dX11_clear_6 (rd_nj (by decide) rfl) ?_
  refine x_istore_n dX11_clear_9 rfl (Nat.le_of_ble_eq_true rfl) (lv' := [(1, _), (0, _)]) rfl ?_
  refine x_aload_n dX11_clear_10 rfl 1 rfl ?_
  refine x_iconst (v := (0 : Int32)) dX11_clear_11 rfl ?_
  refine x_putI hG fp_X11_104 dX11_clear_12 ?_
  refine x_aload_n dX11_clear_15 rfl 1 rfl ?_
  refine x_iconst (v := (0 : Int32)) dX11_clear_16 rfl ?_
  refine x_putI hG fp_X11_230 dX11_clear_17 ?_
  refine x_iconst (v := (0 : Int32)) dX11_clear_20 rfl ?_
  refine x_istore_n dX11_clear_21 rfl (Nat.le_of_ble_eq_true rfl) (lv' := [(2, _), (1, _), (0, _)]) rfl ?_
  obtain ⟨n, h⟩ := h
  exact x_sub [2, 1, 0] rfl (xX11_clear_22 hG n h)
theorem ct_X11_clear {G : Gx} (hG : gLy G = LyM) {σ : Sg} {Q : Int32 → Sg → Prop} (h : wX11_clear σ Q) : CT G mX11_clear 1 [.ref (gad G 0)] σ (qi Q) := ct_of rfl (Nat.le_of_ble_eq_true rfl) rfl (xX11_clear hG h)
