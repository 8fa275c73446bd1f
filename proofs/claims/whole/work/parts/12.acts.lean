/-! X0_has has -/
def wX0_has (σ : Sg) (l1 : Int32) (Q : Int32 → Sg → Prop) : Prop :=
  (l1 < 0 → (
    Q (0 : Int32) σ
  )) ∧ (¬ l1 < 0 → (
    (l1 < (sI σ 1 3) → (
      Q (1 : Int32) σ
    )) ∧ (¬ l1 < (sI σ 1 3) → (
      Q (0 : Int32) σ
    ))
  ))
set_option maxRecDepth 100000 in
set_option maxHeartbeats 4000000 in
theorem xX0_has {G : Gx} (hG : gLy G = LyC) {σ : Sg} {l1 : Int32} {Q : Int32 → Sg → Prop} (h : wX0_has σ l1 Q) : X G mX0_has 1 0 [(0, .ref (gad G 1)), (1, .int l1)] [] σ (qi Q) := by
  unfold wX0_has at h
  refine x_iload_n dX0_has_0 rfl 1 rfl ?_
  refine x_if_lt dX0_has_1 16 (by decide) (fun c => ?_) (fun c => ?_)
  · replace h := h.1 c
    refine x_iconst (v := (0 : Int32)) dX0_has_16 rfl ?_
    exact x_zret rfl bz_0 dX0_has_17 ⟨_, rfl, h⟩
  · replace h := h.2 c
    refine x_iload_n dX0_has_4 rfl 1 rfl ?_
    refine x_aload_n dX0_has_5 rfl 0 rfl ?_
    refine x_getIv hG fg_X0_21 dX0_has_6 rfl ?_
    refine x_icmp_ge dX0_has_9 16 (by decide) (fun c => ?_) (fun c => ?_)
    · replace h := h.1 c
      refine x_iconst (v := (1 : Int32)) dX0_has_12 rfl ?_
      refine x_goto dX0_has_13 17 (by decide) ?_
      exact x_zret rfl bz_1 dX0_has_17 ⟨_, rfl, h⟩
    · replace h := h.2 c
      refine x_iconst (v := (0 : Int32)) dX0_has_16 rfl ?_
      exact x_zret rfl bz_0 dX0_has_17 ⟨_, rfl, h⟩
theorem ct_X0_has {G : Gx} (hG : gLy G = LyC) {σ : Sg} {l1 : Int32} {Q : Int32 → Sg → Prop} (h : wX0_has σ l1 Q) : CT G mX0_has 1 [.ref (gad G 1), .int l1] σ (qi Q) := ct_of rfl (Nat.le_of_ble_eq_true rfl) rfl (xX0_has hG h)
/-! X0_given given -/
def wX0_given (σ : Sg) (l1 : Int32) (l2 : Int32) (Q : Int32 → Sg → Prop) : Prop :=
  wX0_has σ l1 (fun r2 σ1 =>
  (r2 = 0 → (
    Q (0 : Int32) σ1
  )) ∧ (¬ r2 = 0 → (
    (l2 < 0 → (
      Q (0 : Int32) σ1
    )) ∧ (¬ l2 < 0 → (
      (l2 < (4 : Int32) → (
        vp_in (((4 : Int32) * l1) + l2) 240 ∧
        Q (sI σ1 2 ((((4 : Int32) * l1) + l2)).toNatClampNeg) σ1
      )) ∧ (¬ l2 < (4 : Int32) → (
        Q (0 : Int32) σ1
      ))
    ))
  ))
  )
set_option maxRecDepth 100000 in
set_option maxHeartbeats 4000000 in
theorem xX0_given {G : Gx} (hG : gLy G = LyC) {σ : Sg} {l1 : Int32} {l2 : Int32} {Q : Int32 → Sg → Prop} (h : wX0_given σ l1 l2 Q) : X G mX0_given 2 0 [(0, .ref (gad G 1)), (1, .int l1), (2, .int l2)] [] σ (qi Q) := by
  unfold wX0_given at h
  refine x_aload_n dX0_given_0 rfl 0 rfl ?_
  refine x_iload_n dX0_given_1 rfl 1 rfl ?_
  refine x_callVi [_] hG mv_X0_has lk_X0_25 rfl rfl rfl ⟨by decide, by decide⟩ rfl (Nat.le_of_ble_eq_true rfl) dX0_given_2 (ct_X0_has hG h) (fun r2 σ1 h => ?_)
  refine x_if_eq dX0_given_5 30 (by decide) (fun c => ?_) (fun c => ?_)
  · replace h := h.1 c
    refine x_iconst (v := (0 : Int32)) dX0_given_30 rfl ?_
    exact x_iret rfl dX0_given_31 ⟨_, rfl, h⟩
  · replace h := h.2 c
    refine x_iload_n dX0_given_8 rfl 2 rfl ?_
    refine x_if_lt dX0_given_9 30 (by decide) (fun c => ?_) (fun c => ?_)
    · replace h := h.1 c
      refine x_iconst (v := (0 : Int32)) dX0_given_30 rfl ?_
      exact x_iret rfl dX0_given_31 ⟨_, rfl, h⟩
    · replace h := h.2 c
      refine x_iload_n dX0_given_12 rfl 2 rfl ?_
      refine x_iconst (v := (4 : Int32)) dX0_given_13 rfl ?_
      refine x_icmp_ge dX0_given_14 30 (by decide) (fun c => ?_) (fun c => ?_)
      · replace h := h.1 c
        refine x_aload_n dX0_given_17 rfl 0 rfl ?_
        refine x_getR (q := 2) hG fg_X0_11 dX0_given_18 ?_
        refine x_iconst (v := (4 : Int32)) dX0_given_21 rfl ?_
        refine x_iload_n dX0_given_22 rfl 1 rfl ?_
        refine x_imul dX0_given_23 ?_
        refine x_iload_n dX0_given_24 rfl 2 rfl ?_
        refine x_iadd dX0_given_25 ?_
        refine x_ialdv hG rfl dX0_given_26 h.1 rfl ?_
        replace h := h.2
        refine x_goto dX0_given_27 31 (by decide) ?_
        exact x_iret rfl dX0_given_31 ⟨_, rfl, h⟩
      · replace h := h.2 c
        refine x_iconst (v := (0 : Int32)) dX0_given_30 rfl ?_
        exact x_iret rfl dX0_given_31 ⟨_, rfl, h⟩
theorem ct_X0_given {G : Gx} (hG : gLy G = LyC) {σ : Sg} {l1 : Int32} {l2 : Int32} {Q : Int32 → Sg → Prop} (h : wX0_given σ l1 l2 Q) : CT G mX0_given 2 [.ref (gad G 1), .int l1, .int l2] σ (qi Q) := ct_of rfl (Nat.le_of_ble_eq_true rfl) rfl (xX0_given hG h)
/-! X0_part part -/
def wX0_part (σ : Sg) (l1 : Int32) (l2 : Int32) (Q : Int32 → Sg → Prop) : Prop :=
  wX0_has σ l1 (fun r2 σ1 =>
  (r2 = 0 → (
    Q (-1 : Int32) σ1
  )) ∧ (¬ r2 = 0 → (
    (l2 < 0 → (
      Q (-1 : Int32) σ1
    )) ∧ (¬ l2 < 0 → (
      (l2 < (3 : Int32) → (
        vp_in (((3 : Int32) * l1) + l2) 180 ∧
        Q (sI σ1 3 ((((3 : Int32) * l1) + l2)).toNatClampNeg) σ1
      )) ∧ (¬ l2 < (3 : Int32) → (
        Q (-1 : Int32) σ1
      ))
    ))
  ))
  )
set_option maxRecDepth 100000 in
set_option maxHeartbeats 4000000 in
theorem xX0_part {G : Gx} (hG : gLy G = LyC) {σ : Sg} {l1 : Int32} {l2 : Int32} {Q : Int32 → Sg → Prop} (h : wX0_part σ l1 l2 Q) : X G mX0_part 2 0 [(0, .ref (gad G 1)), (1, .int l1), (2, .int l2)] [] σ (qi Q) := by
  unfold wX0_part at h
  refine x_aload_n dX0_part_0 rfl 0 rfl ?_
  refine x_iload_n dX0_part_1 rfl 1 rfl ?_
  refine x_callVi [_] hG mv_X0_has lk_X0_25 rfl rfl rfl ⟨by decide, by decide⟩ rfl (Nat.le_of_ble_eq_true rfl) dX0_part_2 (ct_X0_has hG h) (fun r2 σ1 h => ?_)
  refine x_if_eq dX0_part_5 30 (by decide) (fun c => ?_) (fun c => ?_)
  · replace h := h.1 c
    refine x_iconst (v := (-1 : Int32)) dX0_part_30 rfl ?_
    exact x_iret rfl dX0_part_31 ⟨_, rfl, h⟩
  · replace h := h.2 c
    refine x_iload_n dX0_part_8 rfl 2 rfl ?_
    refine x_if_lt dX0_part_9 30 (by decide) (fun c => ?_) (fun c => ?_)
    · replace h := h.1 c
      refine x_iconst (v := (-1 : Int32)) dX0_part_30 rfl ?_
      exact x_iret rfl dX0_part_31 ⟨_, rfl, h⟩
    · replace h := h.2 c
      refine x_iload_n dX0_part_12 rfl 2 rfl ?_
      refine x_iconst (v := (3 : Int32)) dX0_part_13 rfl ?_
      refine x_icmp_ge dX0_part_14 30 (by decide) (fun c => ?_) (fun c => ?_)
      · replace h := h.1 c
        refine x_aload_n dX0_part_17 rfl 0 rfl ?_
        refine x_getR (q := 3) hG fg_X0_15 dX0_part_18 ?_
        refine x_iconst (v := (3 : Int32)) dX0_part_21 rfl ?_
        refine x_iload_n dX0_part_22 rfl 1 rfl ?_
        refine x_imul dX0_part_23 ?_
        refine x_iload_n dX0_part_24 rfl 2 rfl ?_
        refine x_iadd dX0_part_25 ?_
        refine x_ialdv hG rfl dX0_part_26 h.1 rfl ?_
        replace h := h.2
        refine x_goto dX0_part_27 31 (by decide) ?_
        exact x_iret rfl dX0_part_31 ⟨_, rfl, h⟩
      · replace h := h.2 c
        refine x_iconst (v := (-1 : Int32)) dX0_part_30 rfl ?_
        exact x_iret rfl dX0_part_31 ⟨_, rfl, h⟩
theorem ct_X0_part {G : Gx} (hG : gLy G = LyC) {σ : Sg} {l1 : Int32} {l2 : Int32} {Q : Int32 → Sg → Prop} (h : wX0_part σ l1 l2 Q) : CT G mX0_part 2 [.ref (gad G 1), .int l1, .int l2] σ (qi Q) := ct_of rfl (Nat.le_of_ble_eq_true rfl) rfl (xX0_part hG h)
/-! X0_partsAhead partsAhead -/
def wX0_partsAhead (σ : Sg) (l1 : Int32) (Q : Int32 → Sg → Prop) : Prop :=
  wX0_has σ l1 (fun r2 σ1 =>
  (r2 = 0 → (
    Q (0 : Int32) σ1
  )) ∧ (¬ r2 = 0 → (
    vp_in l1 60 ∧
    Q (sI σ1 4 (l1).toNatClampNeg) σ1
  ))
  )
set_option maxRecDepth 100000 in
set_option maxHeartbeats 4000000 in
theorem xX0_partsAhead {G : Gx} (hG : gLy G = LyC) {σ : Sg} {l1 : Int32} {Q : Int32 → Sg → Prop} (h : wX0_partsAhead σ l1 Q) : X G mX0_partsAhead 2 0 [(0, .ref (gad G 1)), (1, .int l1)] [] σ (qi Q) := by
  unfold wX0_partsAhead at h
  refine x_aload_n dX0_partsAhead_0 rfl 0 rfl ?_
  refine x_iload_n dX0_partsAhead_1 rfl 1 rfl ?_
  refine x_callVi [_] hG mv_X0_has lk_X0_25 rfl rfl rfl ⟨by decide, by decide⟩ rfl (Nat.le_of_ble_eq_true rfl) dX0_partsAhead_2 (ct_X0_has hG h) (fun r2 σ1 h => ?_)
  refine x_if_eq dX0_partsAhead_5 17 (by decide) (fun c => ?_) (fun c => ?_)
  · replace h := h.1 c
    refine x_iconst (v := (0 : Int32)) dX0_partsAhead_17 rfl ?_
    exact x_iret rfl dX0_partsAhead_18 ⟨_, rfl, h⟩
  · replace h := h.2 c
    refine x_aload_n dX0_partsAhead_8 rfl 0 rfl ?_
    refine x_getR (q := 4) hG fg_X0_18 dX0_partsAhead_9 ?_
    refine x_iload_n dX0_partsAhead_12 rfl 1 rfl ?_
    refine x_ialdv hG rfl dX0_partsAhead_13 h.1 rfl ?_
    replace h := h.2
    refine x_goto dX0_partsAhead_14 18 (by decide) ?_
    exact x_iret rfl dX0_partsAhead_18 ⟨_, rfl, h⟩
theorem ct_X0_partsAhead {G : Gx} (hG : gLy G = LyC) {σ : Sg} {l1 : Int32} {Q : Int32 → Sg → Prop} (h : wX0_partsAhead σ l1 Q) : CT G mX0_partsAhead 2 [.ref (gad G 1), .int l1] σ (qi Q) := ct_of rfl (Nat.le_of_ble_eq_true rfl) rfl (xX0_partsAhead hG h)
/-! X0_isUnknown isUnknown -/
def wX0_isUnknown_10 (σ : Sg) (l2 : Int32) (Q : Int32 → Sg → Prop) : Prop :=
  wX0_has σ l2 (fun r2 σ1 =>
  (r2 = 0 → (
    Q (1 : Int32) σ1
  )) ∧ (¬ r2 = 0 → (
    Q (0 : Int32) σ1
  ))
  )
set_option maxRecDepth 100000 in
set_option maxHeartbeats 4000000 in
theorem xX0_isUnknown_10 {G : Gx} (hG : gLy G = LyC) {σ : Sg} {l2 : Int32} {Q : Int32 → Sg → Prop} (h : wX0_isUnknown_10 σ l2 Q) : X G mX0_isUnknown 2 10 [(0, .ref (gad G 1)), (2, .int l2)] [] σ (qi Q) := by
  unfold wX0_isUnknown_10 at h
  refine x_aload_n dX0_isUnknown_10 rfl 0 rfl ?_
  refine x_iload_n dX0_isUnknown_11 rfl 1 rfl ?_
  refine x_callVi [_] hG mv_X0_has lk_X0_25 rfl rfl rfl ⟨by decide, by decide⟩ rfl (Nat.le_of_ble_eq_true rfl) dX0_isUnknown_12 (ct_X0_has hG h) (fun r2 σ1 h => ?_)
  refine x_if_ne dX0_isUnknown_15 22 (by decide) (fun c => ?_) (fun c => ?_)
  · replace h := h.1 c
    refine x_iconst (v := (1 : Int32)) dX0_isUnknown_18 rfl ?_
    refine x_goto dX0_isUnknown_19 23 (by decide) ?_
    exact x_zret rfl bz_1 dX0_isUnknown_23 ⟨_, rfl, h⟩
  · replace h := h.2 c
    refine x_iconst (v := (0 : Int32)) dX0_isUnknown_22 rfl ?_
    exact x_zret rfl bz_0 dX0_isUnknown_23 ⟨_, rfl, h⟩
def wX0_isUnknown (σ : Sg) (l1 : Int32) (l2 : Int32) (Q : Int32 → Sg → Prop) : Prop :=
  (l1 = (1 : Int32) → (
    wX0_isUnknown_10 σ l2 Q
  )) ∧ (¬ l1 = (1 : Int32) → (
    (l1 = (2 : Int32) → (
      wX0_isUnknown_10 σ l2 Q
    )) ∧ (¬ l1 = (2 : Int32) → (
      Q (0 : Int32) σ
    ))
  ))
set_option maxRecDepth 100000 in
set_option maxHeartbeats 4000000 in
theorem xX0_isUnknown {G : Gx} (hG : gLy G = LyC) {σ : Sg} {l1 : Int32} {l2 : Int32} {Q : Int32 → Sg → Prop} (h : wX0_isUnknown σ l1 l2 Q) : X G mX0_isUnknown 2 0 [(0, .ref (gad G 1)), (1, .int l1), (2, .int l2)] [] σ (qi Q) := by
  unfold wX0_isUnknown at h
  refine x_iload_n dX0_isUnknown_0 rfl 1 rfl ?_
  refine x_iconst (v := (1 : Int32)) dX0_isUnknown_1 rfl ?_
  refine x_icmp_eq dX0_isUnknown_2 10 (by decide) (fun c => ?_) (fun c => ?_)
  · replace h := h.1 c
    exact x_sub [0, 2] rfl (xX0_isUnknown_10 hG h)
  · replace h := h.2 c
    refine x_iload_n dX0_isUnknown_5 rfl 1 rfl ?_
    refine x_iconst (v := (2 : Int32)) dX0_isUnknown_6 rfl ?_
    refine x_icmp_ne dX0_isUnknown_7 22 (by decide) (fun c => ?_) (fun c => ?_)
    · replace h := h.1 c
      exact x_sub [0, 2] rfl (xX0_isUnknown_10 hG h)
    · replace h := h.2 c
      refine x_iconst (v := (0 : Int32)) dX0_isUnknown_22 rfl ?_
      exact x_zret rfl bz_0 dX0_isUnknown_23 ⟨_, rfl, h⟩
theorem ct_X0_isUnknown {G : Gx} (hG : gLy G = LyC) {σ : Sg} {l1 : Int32} {l2 : Int32} {Q : Int32 → Sg → Prop} (h : wX0_isUnknown σ l1 l2 Q) : CT G mX0_isUnknown 2 [.ref (gad G 1), .int l1, .int l2] σ (qi Q) := ct_of rfl (Nat.le_of_ble_eq_true rfl) rfl (xX0_isUnknown hG h)
/-! X0_isOutside isOutside -/
def wX0_isOutside_18 (σ : Sg) (Q : Int32 → Sg → Prop) : Prop :=
  Q (1 : Int32) σ
set_option maxRecDepth 100000 in
set_option maxHeartbeats 4000000 in
theorem xX0_isOutside_18 {G : Gx} (hG : gLy G = LyC) {σ : Sg} {Q : Int32 → Sg → Prop} (h : wX0_isOutside_18 σ Q) : X G mX0_isOutside 1 18 [] [] σ (qi Q) := by
  unfold wX0_isOutside_18 at h
  refine x_iconst (v := (1 : Int32)) dX0_isOutside_18 rfl ?_
  refine x_goto dX0_isOutside_19 23 (by decide) ?_
  exact x_zret rfl bz_1 dX0_isOutside_23 ⟨_, rfl, h⟩
def wX0_isOutside (σ : Sg) (l1 : Int32) (l2 : Int32) (Q : Int32 → Sg → Prop) : Prop :=
  ((2 : Int32) < l1 → (
    (l2 < 0 → (
      wX0_isOutside_18 σ Q
    )) ∧ (¬ l2 < 0 → (
      vp_in l1 7 ∧
      ((tbG (l1).toNatClampNeg) < l2 → (
        wX0_isOutside_18 σ Q
      )) ∧ (¬ (tbG (l1).toNatClampNeg) < l2 → (
        Q (0 : Int32) σ
      ))
    ))
  )) ∧ (¬ (2 : Int32) < l1 → (
    Q (0 : Int32) σ
  ))
set_option maxRecDepth 100000 in
set_option maxHeartbeats 4000000 in
theorem xX0_isOutside {G : Gx} (hG : gLy G = LyC) {σ : Sg} {l1 : Int32} {l2 : Int32} {Q : Int32 → Sg → Prop} (h : wX0_isOutside σ l1 l2 Q) : X G mX0_isOutside 1 0 [(0, .ref (gad G 1)), (1, .int l1), (2, .int l2)] [] σ (qi Q) := by
  unfold wX0_isOutside at h
  refine x_iload_n dX0_isOutside_0 rfl 1 rfl ?_
  refine x_iconst (v := (2 : Int32)) dX0_isOutside_1 rfl ?_
  refine x_icmp_le dX0_isOutside_2 22 (by decide) (fun c => ?_) (fun c => ?_)
  · replace h := h.1 c
    refine x_iload_n dX0_isOutside_5 rfl 2 rfl ?_
    refine x_if_lt dX0_isOutside_6 18 (by decide) (fun c => ?_) (fun c => ?_)
    · replace h := h.1 c
      exact x_sub [] rfl (xX0_isOutside_18 hG h)
    · replace h := h.2 c
      refine x_iload_n dX0_isOutside_9 rfl 2 rfl ?_
      refine x_getsG fl_X0_41 dX0_isOutside_10 ?_
      refine x_iload_n dX0_isOutside_13 rfl 1 rfl ?_
      refine x_tbG dX0_isOutside_14 h.1 ?_
      replace h := h.2
      refine x_icmp_le dX0_isOutside_15 22 (by decide) (fun c => ?_) (fun c => ?_)
      · replace h := h.1 c
        exact x_sub [] rfl (xX0_isOutside_18 hG h)
      · replace h := h.2 c
        refine x_iconst (v := (0 : Int32)) dX0_isOutside_22 rfl ?_
        exact x_zret rfl bz_0 dX0_isOutside_23 ⟨_, rfl, h⟩
  · replace h := h.2 c
    refine x_iconst (v := (0 : Int32)) dX0_isOutside_22 rfl ?_
    exact x_zret rfl bz_0 dX0_isOutside_23 ⟨_, rfl, h⟩
theorem ct_X0_isOutside {G : Gx} (hG : gLy G = LyC) {σ : Sg} {l1 : Int32} {l2 : Int32} {Q : Int32 → Sg → Prop} (h : wX0_isOutside σ l1 l2 Q) : CT G mX0_isOutside 1 [.ref (gad G 1), .int l1, .int l2] σ (qi Q) := ct_of rfl (Nat.le_of_ble_eq_true rfl) rfl (xX0_isOutside hG h)
/-! X0_refusalOf refusalOf -/
def wX0_refusalOf (σ : Sg) (l1 : Int32) (l2 : Int32) (l3 : Int32) (l4 : Int32) (Q : Int32 → Sg → Prop) : Prop :=
  (l1 < 0 → (
    Q (-102 : Int32) σ
  )) ∧ (¬ l1 < 0 → (
    ((31 : Int32) < l1 → (
      Q (-102 : Int32) σ
    )) ∧ (¬ (31 : Int32) < l1 → (
      vp_in ((3 : Int32) * l1) 96 ∧
      wX0_isUnknown σ (tbM (((3 : Int32) * l1)).toNatClampNeg) l2 (fun r2 σ1 =>
      (r2 = 0 → (
        vp_in (((3 : Int32) * l1) + (1 : Int32)) 96 ∧
        wX0_isUnknown σ1 (tbM ((((3 : Int32) * l1) + (1 : Int32))).toNatClampNeg) l3 (fun r4 σ3 =>
        (r4 = 0 → (
          vp_in (((3 : Int32) * l1) + (2 : Int32)) 96 ∧
          wX0_isUnknown σ3 (tbM ((((3 : Int32) * l1) + (2 : Int32))).toNatClampNeg) l4 (fun r6 σ5 =>
          (r6 = 0 → (
            vp_in ((3 : Int32) * l1) 96 ∧
            wX0_isOutside σ5 (tbM (((3 : Int32) * l1)).toNatClampNeg) l2 (fun r8 σ7 =>
            (r8 = 0 → (
              vp_in (((3 : Int32) * l1) + (1 : Int32)) 96 ∧
              wX0_isOutside σ7 (tbM ((((3 : Int32) * l1) + (1 : Int32))).toNatClampNeg) l3 (fun r10 σ9 =>
              (r10 = 0 → (
                vp_in (((3 : Int32) * l1) + (2 : Int32)) 96 ∧
                wX0_isOutside σ9 (tbM ((((3 : Int32) * l1) + (2 : Int32))).toNatClampNeg) l4 (fun r12 σ11 =>
                (r12 = 0 → (
                  ((sI σ11 1 3) < (60 : Int32) → (
                    Q (0 : Int32) σ11
                  )) ∧ (¬ (sI σ11 1 3) < (60 : Int32) → (
                    Q (-104 : Int32) σ11
                  ))
                )) ∧ (¬ r12 = 0 → (
                  Q (-102 : Int32) σ11
                ))
                )
              )) ∧ (¬ r10 = 0 → (
                Q (-102 : Int32) σ9
              ))
              )
            )) ∧ (¬ r8 = 0 → (
              Q (-102 : Int32) σ7
            ))
            )
          )) ∧ (¬ r6 = 0 → (
            Q (-101 : Int32) σ5
          ))
          )
        )) ∧ (¬ r4 = 0 → (
          Q (-101 : Int32) σ3
        ))
        )
      )) ∧ (¬ r2 = 0 → (
        Q (-101 : Int32) σ1
      ))
      )
    ))
  ))
set_option maxRecDepth 100000 in
set_option maxHeartbeats 4000000 in
theorem xX0_refusalOf {G : Gx} (hG : gLy G = LyC) {σ : Sg} {l1 : Int32} {l2 : Int32} {l3 : Int32} {l4 : Int32} {Q : Int32 → Sg → Prop} (h : wX0_refusalOf σ l1 l2 l3 l4 Q) : X G mX0_refusalOf 3 0 [(0, .ref (gad G 1)), (1, .int l1), (2, .int l2), (3, .int l3), (4, .int l4)] [] σ (qi Q) := by
  unfold wX0_refusalOf at h
  refine x_iload_n dX0_refusalOf_0 rfl 1 rfl ?_
  refine x_if_lt dX0_refusalOf_1 10 (by decide) (fun c => ?_) (fun c => ?_)
  · replace h := h.1 c
    refine x_bipush (v := (-102 : Int32)) dX0_refusalOf_10 rfl ?_
    exact x_iret rfl dX0_refusalOf_12 ⟨_, rfl, h⟩
  · replace h := h.2 c
    refine x_iload_n dX0_refusalOf_4 rfl 1 rfl ?_
    refine x_bipush (v := (31 : Int32)) dX0_refusalOf_5 rfl ?_
    refine x_icmp_le dX0_refusalOf_7 13 (by decide) (fun c => ?_) (fun c => ?_)
    · replace h := h.1 c
      refine x_bipush (v := (-102 : Int32)) dX0_refusalOf_10 rfl ?_
      exact x_iret rfl dX0_refusalOf_12 ⟨_, rfl, h⟩
    · replace h := h.2 c
      refine x_iconst (v := (3 : Int32)) dX0_refusalOf_13 rfl ?_
      refine x_iload_n dX0_refusalOf_14 rfl 1 rfl ?_
      refine x_imul dX0_refusalOf_15 ?_
      refine x_istore dX0_refusalOf_16 (Nat.le_of_ble_eq_true rfl) (lv' := [(5, _), (0, _), (1, _), (2, _), (3, _), (4, _)]) rfl ?_
      refine x_aload_n dX0_refusalOf_18 rfl 1 rfl ?_
      refine x_getsM fl_X0_31 dX0_refusalOf_19 ?_
      refine x_iload dX0_refusalOf_22 0 rfl ?_
      refine x_tbM dX0_refusalOf_24 h.1 ?_
      replace h := h.2
      refine x_iload_n dX0_refusalOf_25 rfl 3 rfl ?_
      refine x_callVi [_, _] hG mv_X0_isUnknown lk_X0_34 rfl rfl rfl ⟨by decide, by decide⟩ rfl (Nat.le_of_ble_eq_true rfl) dX0_refusalOf_26 (ct_X0_isUnknown hG h) (fun r2 σ1 h => ?_)
      refine x_if_ne dX0_refusalOf_29 65 (by decide) (fun c => ?_) (fun c => ?_)
      · replace h := h.1 c
        refine x_aload_n dX0_refusalOf_32 rfl 1 rfl ?_
        refine x_getsM fl_X0_31 dX0_refusalOf_33 ?_
        refine x_iload dX0_refusalOf_36 0 rfl ?_
        refine x_iconst (v := (1 : Int32)) dX0_refusalOf_38 rfl ?_
        refine x_iadd dX0_refusalOf_39 ?_
        refine x_tbM dX0_refusalOf_40 h.1 ?_
        replace h := h.2
        refine x_iload_n dX0_refusalOf_41 rfl 4 rfl ?_
        refine x_callVi [_, _] hG mv_X0_isUnknown lk_X0_34 rfl rfl rfl ⟨by decide, by decide⟩ rfl (Nat.le_of_ble_eq_true rfl) dX0_refusalOf_42 (ct_X0_isUnknown hG h) (fun r4 σ3 h => ?_)
        refine x_if_ne dX0_refusalOf_45 65 (by decide) (fun c => ?_) (fun c => ?_)
        · replace h := h.1 c
          refine x_aload_n dX0_refusalOf_48 rfl 1 rfl ?_
          refine x_getsM fl_X0_31 dX0_refusalOf_49 ?_
          refine x_iload dX0_refusalOf_52 0 rfl ?_
          refine x_iconst (v := (2 : Int32)) dX0_refusalOf_54 rfl ?_
          refine x_iadd dX0_refusalOf_55 ?_
          refine x_tbM dX0_refusalOf_56 h.1 ?_
          replace h := h.2
          refine x_iload dX0_refusalOf_57 5 rfl ?_
          refine x_callVi [_, _] hG mv_X0_isUnknown lk_X0_34 rfl rfl rfl ⟨by decide, by decide⟩ rfl (Nat.le_of_ble_eq_true rfl) dX0_refusalOf_59 (ct_X0_isUnknown hG h) (fun r6 σ5 h => ?_)
          refine x_if_eq dX0_refusalOf_62 68 (by decide) (fun c => ?_) (fun c => ?_)
          · replace h := h.1 c
            refine x_aload_n dX0_refusalOf_68 rfl 1 rfl ?_
            refine x_getsM fl_X0_31 dX0_refusalOf_69 ?_
            refine x_iload dX0_refusalOf_72 0 rfl ?_
            refine x_tbM dX0_refusalOf_74 h.1 ?_
            replace h := h.2
            refine x_iload_n dX0_refusalOf_75 rfl 3 rfl ?_
            refine x_callVi [_, _] hG mv_X0_isOutside lk_X0_38 rfl rfl rfl ⟨by decide, by decide⟩ rfl (Nat.le_of_ble_eq_true rfl) dX0_refusalOf_76 (ct_X0_isOutside hG h) (fun r8 σ7 h => ?_)
            refine x_if_ne dX0_refusalOf_79 115 (by decide) (fun c => ?_) (fun c => ?_)
            · replace h := h.1 c
              refine x_aload_n dX0_refusalOf_82 rfl 1 rfl ?_
              refine x_getsM fl_X0_31 dX0_refusalOf_83 ?_
              refine x_iload dX0_refusalOf_86 0 rfl ?_
              refine x_iconst (v := (1 : Int32)) dX0_refusalOf_88 rfl ?_
              refine x_iadd dX0_refusalOf_89 ?_
              refine x_tbM dX0_refusalOf_90 h.1 ?_
              replace h := h.2
              refine x_iload_n dX0_refusalOf_91 rfl 4 rfl ?_
              refine x_callVi [_, _] hG mv_X0_isOutside lk_X0_38 rfl rfl rfl ⟨by decide, by decide⟩ rfl (Nat.le_of_ble_eq_true rfl) dX0_refusalOf_92 (ct_X0_isOutside hG h) (fun r10 σ9 h => ?_)
              refine x_if_ne dX0_refusalOf_95 115 (by decide) (fun c => ?_) (fun c => ?_)
              · replace h := h.1 c
                refine x_aload_n dX0_refusalOf_98 rfl 1 rfl ?_
                refine x_getsM fl_X0_31 dX0_refusalOf_99 ?_
                refine x_iload dX0_refusalOf_102 0 rfl ?_
                refine x_iconst (v := (2 : Int32)) dX0_refusalOf_104 rfl ?_
                refine x_iadd dX0_refusalOf_105 ?_
                refine x_tbM dX0_refusalOf_106 h.1 ?_
                replace h := h.2
                refine x_iload dX0_refusalOf_107 5 rfl ?_
                refine x_callVi [_, _] hG mv_X0_isOutside lk_X0_38 rfl rfl rfl ⟨by decide, by decide⟩ rfl (Nat.le_of_ble_eq_true rfl) dX0_refusalOf_109 (ct_X0_isOutside hG h) (fun r12 σ11 h => ?_)
                refine x_if_eq dX0_refusalOf_112 118 (by decide) (fun c => ?_) (fun c => ?_)
                · replace h := h.1 c
                  refine x_aload_n dX0_refusalOf_118 rfl 1 rfl ?_
                  refine x_getIv hG fg_X0_21 dX0_refusalOf_119 rfl ?_
                  refine x_bipush (v := (60 : Int32)) dX0_refusalOf_122 rfl ?_
                  refine x_icmp_lt dX0_refusalOf_124 132 (by decide) (fun c => ?_) (fun c => ?_)
                  · replace h := h.1 c
                    refine x_iconst (v := (0 : Int32)) dX0_refusalOf_132 rfl ?_
                    exact x_iret rfl dX0_refusalOf_133 ⟨_, rfl, h⟩
                  · replace h := h.2 c
                    refine x_bipush (v := (-104 : Int32)) dX0_refusalOf_127 rfl ?_
                    refine x_goto dX0_refusalOf_129 133 (by decide) ?_
                    exact x_iret rfl dX0_refusalOf_133 ⟨_, rfl, h⟩
                · replace h := h.2 c
                  refine x_bipush (v := (-102 : Int32)) dX0_refusalOf_115 rfl ?_
                  exact x_iret rfl dX0_refusalOf_117 ⟨_, rfl, h⟩
              · replace h := h.2 c
                refine x_bipush (v := (-102 : Int32)) dX0_refusalOf_115 rfl ?_
                exact x_iret rfl dX0_refusalOf_117 ⟨_, rfl, h⟩
            · replace h := h.2 c
              refine x_bipush (v := (-102 : Int32)) dX0_refusalOf_115 rfl ?_
              exact x_iret rfl dX0_refusalOf_117 ⟨_, rfl, h⟩
          · replace h := h.2 c
            refine x_bipush (v := (-101 : Int32)) dX0_refusalOf_65 rfl ?_
            exact x_iret rfl dX0_refusalOf_67 ⟨_, rfl, h⟩
        · replace h := h.2 c
          refine x_bipush (v := (-101 : Int32)) dX0_refusalOf_65 rfl ?_
          exact x_iret rfl dX0_refusalOf_67 ⟨_, rfl, h⟩
      · replace h := h.2 c
        refine x_bipush (v := (-101 : Int32)) dX0_refusalOf_65 rfl ?_
        exact x_iret rfl dX0_refusalOf_67 ⟨_, rfl, h⟩
theorem ct_X0_refusalOf {G : Gx} (hG : gLy G = LyC) {σ : Sg} {l1 : Int32} {l2 : Int32} {l3 : Int32} {l4 : Int32} {Q : Int32 → Sg → Prop} (h : wX0_refusalOf σ l1 l2 l3 l4 Q) : CT G mX0_refusalOf 3 [.ref (gad G 1), .int l1, .int l2, .int l3, .int l4] σ (qi Q) := ct_of rfl (Nat.le_of_ble_eq_true rfl) rfl (xX0_refusalOf hG h)
/-! X0_sortParts sortParts -/
def wX0_sortParts_8 : Nat → Sg → Int32 → Int32 → Int32 → Int32 → Int32 → (Sg → Prop) → Prop
  | 0 => fun _ _ _ _ _ _ _ => False
  | n + 1 => fun σ l1 l2 l3 l4 l5 Q =>
  (l5 < (3 : Int32) → (
    vp_in (l2 + l5) 96 ∧
    ((tbM ((l2 + l5)).toNatClampNeg) = (1 : Int32) → (
      vp_in ((((4 : Int32) * l1) + (1 : Int32)) + l5) 240 ∧
      vp_in (((3 : Int32) * l1) + l3) 180 ∧
      let σ1 := wI σ 3 ((((3 : Int32) * l1) + l3)).toNatClampNeg (sI σ 2 (((((4 : Int32) * l1) + (1 : Int32)) + l5)).toNatClampNeg)
      ((tbM ((l2 + l5)).toNatClampNeg) = (1 : Int32) → (
        wX0_sortParts_8 n σ1 l1 l2 (l3 + (1 : Int32)) (l4 + (1 : Int32)) (l5 + (1 : Int32)) Q
      )) ∧ (¬ (tbM ((l2 + l5)).toNatClampNeg) = (1 : Int32) → (
        wX0_sortParts_8 n σ1 l1 l2 (l3 + (1 : Int32)) l4 (l5 + (1 : Int32)) Q
      ))
    )) ∧ (¬ (tbM ((l2 + l5)).toNatClampNeg) = (1 : Int32) → (
      ((tbM ((l2 + l5)).toNatClampNeg) = (2 : Int32) → (
        vp_in ((((4 : Int32) * l1) + (1 : Int32)) + l5) 240 ∧
        vp_in (((3 : Int32) * l1) + l3) 180 ∧
        let σ2 := wI σ 3 ((((3 : Int32) * l1) + l3)).toNatClampNeg (sI σ 2 (((((4 : Int32) * l1) + (1 : Int32)) + l5)).toNatClampNeg)
        ((tbM ((l2 + l5)).toNatClampNeg) = (1 : Int32) → (
          wX0_sortParts_8 n σ2 l1 l2 (l3 + (1 : Int32)) (l4 + (1 : Int32)) (l5 + (1 : Int32)) Q
        )) ∧ (¬ (tbM ((l2 + l5)).toNatClampNeg) = (1 : Int32) → (
          wX0_sortParts_8 n σ2 l1 l2 (l3 + (1 : Int32)) l4 (l5 + (1 : Int32)) Q
        ))
      )) ∧ (¬ (tbM ((l2 + l5)).toNatClampNeg) = (2 : Int32) → (
        ((tbM ((l2 + l5)).toNatClampNeg) = (1 : Int32) → (
          wX0_sortParts_8 n σ l1 l2 l3 (l4 + (1 : Int32)) (l5 + (1 : Int32)) Q
        )) ∧ (¬ (tbM ((l2 + l5)).toNatClampNeg) = (1 : Int32) → (
          wX0_sortParts_8 n σ l1 l2 l3 l4 (l5 + (1 : Int32)) Q
        ))
      ))
    ))
  )) ∧ (¬ l5 < (3 : Int32) → (
    vp_in l1 60 ∧
    let σ3 := wI σ 4 (l1).toNatClampNeg l4
    Q σ3
  ))
set_option maxRecDepth 100000 in
set_option maxHeartbeats 4000000 in
theorem xX0_sortParts_8 {G : Gx} (hG : gLy G = LyC) {Q : Sg → Prop} (n : Nat) : ∀ {σ : Sg} {l1 : Int32} {l2 : Int32} {l3 : Int32} {l4 : Int32} {l5 : Int32}, wX0_sortParts_8 n σ l1 l2 l3 l4 l5 Q → X G mX0_sortParts 1 8 [(0, .ref (gad G 1)), (1, .int l1), (2, .int l2), (3, .int l3), (4, .int l4), (5, .int l5)] [] σ (qv Q) := by
  induction n with
  | zero => intro σ l1 l2 l3 l4 l5 h; exact False.elim h
  | succ n ih =>
  intro σ l1 l2 l3 l4 l5 h
  unfold wX0_sortParts_8 at h
  refine x_iload dX0_sortParts_8 5 rfl ?_
  refine x_iconst (v := (3 : Int32)) dX0_sortParts_10 rfl ?_
  refine x_icmp_ge dX0_sortParts_11 77 (by decide) (fun c => ?_) (fun c => ?_)
  · replace h := h.1 c
    refine x_getsM fl_X0_31 dX0_sortParts_14 ?_
    refine x_iload_n dX0_sortParts_17 rfl 2 rfl ?_
    refine x_iload dX0_sortParts_18 5 rfl ?_
    refine x_iadd dX0_sortParts_20 ?_
    refine x_tbM dX0_sortParts_21 h.1 ?_
    replace h := h.2
    refine x_istore dX0_sortParts_22 (Nat.le_of_ble_eq_true rfl) (lv' := [(6, _), (0, _), (1, _), (2, _), (3, _), (4, _), (5, _)]) rfl ?_
    refine x_iload dX0_sortParts_24 0 rfl ?_
    refine x_iconst (v := (1 : Int32)) dX0_sortParts_26 rfl ?_
    refine x_icmp_eq dX0_sortParts_27 36 (by decide) (fun c => ?_) (fun c => ?_)
    · replace h := h.1 c
      refine x_aload_n dX0_sortParts_36 rfl 1 rfl ?_
      refine x_getR (q := 3) hG fg_X0_15 dX0_sortParts_37 ?_
      refine x_iconst (v := (3 : Int32)) dX0_sortParts_40 rfl ?_
      refine x_iload_n dX0_sortParts_41 rfl 2 rfl ?_
      refine x_imul dX0_sortParts_42 ?_
      refine x_iload_n dX0_sortParts_43 rfl 4 rfl ?_
      refine x_iadd dX0_sortParts_44 ?_
      refine x_aload_n dX0_sortParts_45 rfl 1 rfl ?_
      refine x_getR (q := 2) hG fg_X0_11 dX0_sortParts_46 ?_
      refine x_iconst (v := (4 : Int32)) dX0_sortParts_49 rfl ?_
      refine x_iload_n dX0_sortParts_50 rfl 2 rfl ?_
      refine x_imul dX0_sortParts_51 ?_
      refine x_iconst (v := (1 : Int32)) dX0_sortParts_52 rfl ?_
      refine x_iadd dX0_sortParts_53 ?_
      refine x_iload dX0_sortParts_54 6 rfl ?_
      refine x_iadd dX0_sortParts_56 ?_
      refine x_ialdv hG rfl dX0_sortParts_57 h.1 rfl ?_
      replace h := h.2
      refine x_iast hG rfl dX0_sortParts_58 h.1 ?_
      replace h := h.2
      refine x_iinc dX0_sortParts_59 4 rfl (v := _ + (1 : Int32)) rfl (Nat.le_of_ble_eq_true rfl) (lv' := [(3, _), (6, _), (0, _), (1, _), (2, _), (4, _), (5, _)]) rfl ?_
      refine x_iload dX0_sortParts_62 1 rfl ?_
      refine x_iconst (v := (1 : Int32)) dX0_sortParts_64 rfl ?_
      refine x_icmp_ne dX0_sortParts_65 71 (by decide) (fun c => ?_) (fun c => ?_)
      · replace h := h.1 c
        refine x_iinc dX0_sortParts_68 5 rfl (v := _ + (1 : Int32)) rfl (Nat.le_of_ble_eq_true rfl) (lv' := [(4, _), (3, _), (6, _), (0, _), (1, _), (2, _), (5, _)]) rfl ?_
        refine x_iinc dX0_sortParts_71 6 rfl (v := _ + (1 : Int32)) rfl (Nat.le_of_ble_eq_true rfl) (lv' := [(5, _), (4, _), (3, _), (6, _), (0, _), (1, _), (2, _)]) rfl ?_
        refine x_goto dX0_sortParts_74 8 (by decide) ?_
        exact x_sub [4, 5, 6, 2, 1, 0] rfl (ih h)
      · replace h := h.2 c
        refine x_iinc dX0_sortParts_71 6 rfl (v := _ + (1 : Int32)) rfl (Nat.le_of_ble_eq_true rfl) (lv' := [(5, _), (3, _), (6, _), (0, _), (1, _), (2, _), (4, _)]) rfl ?_
        refine x_goto dX0_sortParts_74 8 (by decide) ?_
        exact x_sub [3, 4, 5, 1, 6, 0] rfl (ih h)
    · replace h := h.2 c
      refine x_iload dX0_sortParts_30 0 rfl ?_
      refine x_iconst (v := (2 : Int32)) dX0_sortParts_32 rfl ?_
      refine x_icmp_ne dX0_sortParts_33 62 (by decide) (fun c => ?_) (fun c => ?_)
      · replace h := h.1 c
        refine x_aload_n dX0_sortParts_36 rfl 1 rfl ?_
        refine x_getR (q := 3) hG fg_X0_15 dX0_sortParts_37 ?_
        refine x_iconst (v := (3 : Int32)) dX0_sortParts_40 rfl ?_
        refine x_iload_n dX0_sortParts_41 rfl 2 rfl ?_
        refine x_imul dX0_sortParts_42 ?_
        refine x_iload_n dX0_sortParts_43 rfl 4 rfl ?_
        refine x_iadd dX0_sortParts_44 ?_
        refine x_aload_n dX0_sortParts_45 rfl 1 rfl ?_
        refine x_getR (q := 2) hG fg_X0_11 dX0_sortParts_46 ?_
        refine x_iconst (v := (4 : Int32)) dX0_sortParts_49 rfl ?_
        refine x_iload_n dX0_sortParts_50 rfl 2 rfl ?_
        refine x_imul dX0_sortParts_51 ?_
        refine x_iconst (v := (1 : Int32)) dX0_sortParts_52 rfl ?_
        refine x_iadd dX0_sortParts_53 ?_
        refine x_iload dX0_sortParts_54 6 rfl ?_
        refine x_iadd dX0_sortParts_56 ?_
        refine x_ialdv hG rfl dX0_sortParts_57 h.1 rfl ?_
        replace h := h.2
        refine x_iast hG rfl dX0_sortParts_58 h.1 ?_
        replace h := h.2
        refine x_iinc dX0_sortParts_59 4 rfl (v := _ + (1 : Int32)) rfl (Nat.le_of_ble_eq_true rfl) (lv' := [(3, _), (6, _), (0, _), (1, _), (2, _), (4, _), (5, _)]) rfl ?_
        refine x_iload dX0_sortParts_62 1 rfl ?_
        refine x_iconst (v := (1 : Int32)) dX0_sortParts_64 rfl ?_
        refine x_icmp_ne dX0_sortParts_65 71 (by decide) (fun c => ?_) (fun c => ?_)
        · replace h := h.1 c
          refine x_iinc dX0_sortParts_68 5 rfl (v := _ + (1 : Int32)) rfl (Nat.le_of_ble_eq_true rfl) (lv' := [(4, _), (3, _), (6, _), (0, _), (1, _), (2, _), (5, _)]) rfl ?_
          refine x_iinc dX0_sortParts_71 6 rfl (v := _ + (1 : Int32)) rfl (Nat.le_of_ble_eq_true rfl) (lv' := [(5, _), (4, _), (3, _), (6, _), (0, _), (1, _), (2, _)]) rfl ?_
          refine x_goto dX0_sortParts_74 8 (by decide) ?_
          exact x_sub [4, 5, 6, 2, 1, 0] rfl (ih h)
        · replace h := h.2 c
          refine x_iinc dX0_sortParts_71 6 rfl (v := _ + (1 : Int32)) rfl (Nat.le_of_ble_eq_true rfl) (lv' := [(5, _), (3, _), (6, _), (0, _), (1, _), (2, _), (4, _)]) rfl ?_
          refine x_goto dX0_sortParts_74 8 (by decide) ?_
          exact x_sub [3, 4, 5, 1, 6, 0] rfl (ih h)
      · replace h := h.2 c
        refine x_iload dX0_sortParts_62 0 rfl ?_
        refine x_iconst (v := (1 : Int32)) dX0_sortParts_64 rfl ?_
        refine x_icmp_ne dX0_sortParts_65 71 (by decide) (fun c => ?_) (fun c => ?_)
        · replace h := h.1 c
          refine x_iinc dX0_sortParts_68 5 rfl (v := _ + (1 : Int32)) rfl (Nat.le_of_ble_eq_true rfl) (lv' := [(4, _), (6, _), (0, _), (1, _), (2, _), (3, _), (5, _)]) rfl ?_
          refine x_iinc dX0_sortParts_71 6 rfl (v := _ + (1 : Int32)) rfl (Nat.le_of_ble_eq_true rfl) (lv' := [(5, _), (4, _), (6, _), (0, _), (1, _), (2, _), (3, _)]) rfl ?_
          refine x_goto dX0_sortParts_74 8 (by decide) ?_
          exact x_sub [3, 4, 5, 6, 1, 0] rfl (ih h)
        · replace h := h.2 c
          refine x_iinc dX0_sortParts_71 6 rfl (v := _ + (1 : Int32)) rfl (Nat.le_of_ble_eq_true rfl) (lv' := [(5, _), (6, _), (0, _), (1, _), (2, _), (3, _), (4, _)]) rfl ?_
          refine x_goto dX0_sortParts_74 8 (by decide) ?_
          exact x_sub [2, 3, 4, 5, 6, 0] rfl (ih h)
  · replace h := h.2 c
    refine x_aload_n dX0_sortParts_77 rfl 0 rfl ?_
    refine x_getR (q := 4) hG fg_X0_18 dX0_sortParts_78 ?_
    refine x_iload_n dX0_sortParts_81 rfl 1 rfl ?_
    refine x_iload dX0_sortParts_82 4 rfl ?_
    refine x_iast hG rfl dX0_sortParts_84 h.1 ?_
    replace h := h.2
    exact x_vret rfl dX0_sortParts_85 ⟨rfl, h⟩
def wX0_sortParts (σ : Sg) (l1 : Int32) (l2 : Int32) (Q : Sg → Prop) : Prop :=
  ∃ n, wX0_sortParts_8 n σ l1 l2 (0 : Int32) (0 : Int32) (0 : Int32) Q
set_option maxRecDepth 100000 in
set_option maxHeartbeats 4000000 in
theorem xX0_sortParts {G : Gx} (hG : gLy G = LyC) {σ : Sg} {l1 : Int32} {l2 : Int32} {Q : Sg → Prop} (h : wX0_sortParts σ l1 l2 Q) : X G mX0_sortParts 1 0 [(0, .ref (gad G 1)), (1, .int l1), (2, .int l2)] [] σ (qv Q) := by
  unfold wX0_sortParts at h
  refine x_iconst (v := (0 : Int32)) dX0_sortParts_0 rfl ?_
  refine x_istore_n dX0_sortParts_1 rfl (Nat.le_of_ble_eq_true rfl) (lv' := [(3, _), (0, _), (1, _), (2, _)]) rfl ?_
  refine x_iconst (v := (0 : Int32)) dX0_sortParts_2 rfl ?_
  refine x_istore dX0_sortParts_3 (Nat.le_of_ble_eq_true rfl) (lv' := [(4, _), (3, _), (0, _), (1, _), (2, _)]) rfl ?_
  refine x_iconst (v := (0 : Int32)) dX0_sortParts_5 rfl ?_
  refine x_istore dX0_sortParts_6 (Nat.le_of_ble_eq_true rfl) (lv' := [(5, _), (4, _), (3, _), (0, _), (1, _), (2, _)]) rfl ?_
  obtain ⟨n, h⟩ := h
  exact x_sub [3, 4, 5, 2, 1, 0] rfl (xX0_sortParts_8 hG n h)
theorem ct_X0_sortParts {G : Gx} (hG : gLy G = LyC) {σ : Sg} {l1 : Int32} {l2 : Int32} {Q : Sg → Prop} (h : wX0_sortParts σ l1 l2 Q) : CT G mX0_sortParts 1 [.ref (gad G 1), .int l1, .int l2] σ (qv Q) := ct_of rfl (Nat.le_of_ble_eq_true rfl) rfl (xX0_sortParts hG h)
/-! X0_add add -/
def wX0_add (σ : Sg) (l1 : Int32) (l2 : Int32) (l3 : Int32) (l4 : Int32) (Q : Int32 → Sg → Prop) : Prop :=
  let σ1 := wI σ 1 3 ((sI σ 1 3) + (1 : Int32))
  vp_in ((4 : Int32) * (sI σ 1 3)) 240 ∧
  let σ2 := wI σ1 2 (((4 : Int32) * (sI σ 1 3))).toNatClampNeg l1
  vp_in (((4 : Int32) * (sI σ 1 3)) + (1 : Int32)) 240 ∧
  let σ3 := wI σ2 2 ((((4 : Int32) * (sI σ 1 3)) + (1 : Int32))).toNatClampNeg l2
  vp_in (((4 : Int32) * (sI σ 1 3)) + (2 : Int32)) 240 ∧
  let σ4 := wI σ3 2 ((((4 : Int32) * (sI σ 1 3)) + (2 : Int32))).toNatClampNeg l3
  vp_in (((4 : Int32) * (sI σ 1 3)) + (3 : Int32)) 240 ∧
  let σ5 := wI σ4 2 ((((4 : Int32) * (sI σ 1 3)) + (3 : Int32))).toNatClampNeg l4
  wX0_sortParts σ5 (sI σ 1 3) ((3 : Int32) * l1) (fun σ6 =>
  Q (sI σ 1 3) σ6
  )
set_option maxRecDepth 100000 in
set_option maxHeartbeats 4000000 in
theorem xX0_add {G : Gx} (hG : gLy G = LyC) {σ : Sg} {l1 : Int32} {l2 : Int32} {l3 : Int32} {l4 : Int32} {Q : Int32 → Sg → Prop} (h : wX0_add σ l1 l2 l3 l4 Q) : X G mX0_add 2 0 [(0, .ref (gad G 1)), (1, .int l1), (2, .int l2), (3, .int l3), (4, .int l4)] [] σ (qi Q) := by
  unfold wX0_add at h
  refine x_aload_n dX0_add_0 rfl 0 rfl ?_
  refine x_getIv hG fg_X0_21 dX0_add_1 rfl ?_
  refine x_istore dX0_add_4 (Nat.le_of_ble_eq_true rfl) (lv' := [(5, _), (0, _), (1, _), (2, _), (3, _), (4, _)]) rfl ?_
  refine x_aload_n dX0_add_6 rfl 1 rfl ?_
  refine x_dup dX0_add_7 rfl ?_
  refine x_getIv hG fg_X0_21 dX0_add_8 rfl ?_
  refine x_iconst (v := (1 : Int32)) dX0_add_11 rfl ?_
  refine x_iadd dX0_add_12 ?_
  refine x_putI hG fp_X0_21 dX0_add_13 ?_
  refine x_aload_n dX0_add_16 rfl 1 rfl ?_
  refine x_getR (q := 2) hG fg_X0_11 dX0_add_17 ?_
  refine x_iconst (v := (4 : Int32)) dX0_add_20 rfl ?_
  refine x_iload dX0_add_21 0 rfl ?_
  refine x_imul dX0_add_23 ?_
  refine x_iload_n dX0_add_24 rfl 2 rfl ?_
  refine x_iast hG rfl dX0_add_25 h.1 ?_
  replace h := h.2
  refine x_aload_n dX0_add_26 rfl 1 rfl ?_
  refine x_getR (q := 2) hG fg_X0_11 dX0_add_27 ?_
  refine x_iconst (v := (4 : Int32)) dX0_add_30 rfl ?_
  refine x_iload dX0_add_31 0 rfl ?_
  refine x_imul dX0_add_33 ?_
  refine x_iconst (v := (1 : Int32)) dX0_add_34 rfl ?_
  refine x_iadd dX0_add_35 ?_
  refine x_iload_n dX0_add_36 rfl 3 rfl ?_
  refine x_iast hG rfl dX0_add_37 h.1 ?_
  replace h := h.2
  refine x_aload_n dX0_add_38 rfl 1 rfl ?_
  refine x_getR (q := 2) hG fg_X0_11 dX0_add_39 ?_
  refine x_iconst (v := (4 : Int32)) dX0_add_42 rfl ?_
  refine x_iload dX0_add_43 0 rfl ?_
  refine x_imul dX0_add_45 ?_
  refine x_iconst (v := (2 : Int32)) dX0_add_46 rfl ?_
  refine x_iadd dX0_add_47 ?_
  refine x_iload_n dX0_add_48 rfl 4 rfl ?_
  refine x_iast hG rfl dX0_add_49 h.1 ?_
  replace h := h.2
  refine x_aload_n dX0_add_50 rfl 1 rfl ?_
  refine x_getR (q := 2) hG fg_X0_11 dX0_add_51 ?_
  refine x_iconst (v := (4 : Int32)) dX0_add_54 rfl ?_
  refine x_iload dX0_add_55 0 rfl ?_
  refine x_imul dX0_add_57 ?_
  refine x_iconst (v := (3 : Int32)) dX0_add_58 rfl ?_
  refine x_iadd dX0_add_59 ?_
  refine x_iload dX0_add_60 5 rfl ?_
  refine x_iast hG rfl dX0_add_62 h.1 ?_
  replace h := h.2
  refine x_aload_n dX0_add_63 rfl 1 rfl ?_
  refine x_iload dX0_add_64 0 rfl ?_
  refine x_iconst (v := (3 : Int32)) dX0_add_66 rfl ?_
  refine x_iload_n dX0_add_67 rfl 2 rfl ?_
  refine x_imul dX0_add_68 ?_
  refine x_callVv [_, _] hG mv_X0_sortParts lk_X0_44 rfl rfl rfl ⟨by decide, by decide⟩ rfl (Nat.le_of_ble_eq_true rfl) dX0_add_69 (ct_X0_sortParts hG h) (fun σ6 h => ?_)
  refine x_iload dX0_add_72 0 rfl ?_
  exact x_iret rfl dX0_add_74 ⟨_, rfl, h⟩
theorem ct_X0_add {G : Gx} (hG : gLy G = LyC) {σ : Sg} {l1 : Int32} {l2 : Int32} {l3 : Int32} {l4 : Int32} {Q : Int32 → Sg → Prop} (h : wX0_add σ l1 l2 l3 l4 Q) : CT G mX0_add 2 [.ref (gad G 1), .int l1, .int l2, .int l3, .int l4] σ (qi Q) := ct_of rfl (Nat.le_of_ble_eq_true rfl) rfl (xX0_add hG h)
