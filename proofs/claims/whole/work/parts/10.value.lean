/-! X9_sort sort -/
def wX9_sort (σ : Sg) (l0 : Int64) (Q : Int32 → Sg → Prop) : Prop :=
  Q ((l0 >>> (((32 : Int32)).toInt64 &&& 63))).toInt32 σ
set_option maxRecDepth 100000 in
set_option maxHeartbeats 4000000 in
theorem xX9_sort {G : Gx} (hG : gLy G = LyC) {σ : Sg} {l0 : Int64} {Q : Int32 → Sg → Prop} (h : wX9_sort σ l0 Q) : X G mX9_sort 1 0 [(0, .long l0)] [] σ (qi Q) := by
  unfold wX9_sort at h
  refine x_lload_n dX9_sort_0 rfl 0 rfl ?_
  refine x_bipush (v := (32 : Int32)) dX9_sort_1 rfl ?_
  refine x_lshr dX9_sort_3 ?_
  refine x_l2i dX9_sort_4 ?_
  exact x_iret rfl dX9_sort_5 ⟨_, rfl, h⟩
theorem ct_X9_sort {G : Gx} (hG : gLy G = LyC) {σ : Sg} {l0 : Int64} {Q : Int32 → Sg → Prop} (h : wX9_sort σ l0 Q) : CT G mX9_sort 1 [.long l0] σ (qi Q) := ct_of rfl (Nat.le_of_ble_eq_true rfl) rfl (xX9_sort hG h)
/-! X9_number number -/
def wX9_number (σ : Sg) (l0 : Int64) (Q : Int32 → Sg → Prop) : Prop :=
  Q (l0).toInt32 σ
set_option maxRecDepth 100000 in
set_option maxHeartbeats 4000000 in
theorem xX9_number {G : Gx} (hG : gLy G = LyC) {σ : Sg} {l0 : Int64} {Q : Int32 → Sg → Prop} (h : wX9_number σ l0 Q) : X G mX9_number 1 0 [(0, .long l0)] [] σ (qi Q) := by
  unfold wX9_number at h
  refine x_lload_n dX9_number_0 rfl 0 rfl ?_
  refine x_l2i dX9_number_1 ?_
  exact x_iret rfl dX9_number_2 ⟨_, rfl, h⟩
theorem ct_X9_number {G : Gx} (hG : gLy G = LyC) {σ : Sg} {l0 : Int64} {Q : Int32 → Sg → Prop} (h : wX9_number σ l0 Q) : CT G mX9_number 1 [.long l0] σ (qi Q) := ct_of rfl (Nat.le_of_ble_eq_true rfl) rfl (xX9_number hG h)
/-! X9_isRow isRow -/
def wX9_isRow_20 (σ : Sg) (Q : Int32 → Sg → Prop) : Prop :=
  Q (1 : Int32) σ
set_option maxRecDepth 100000 in
set_option maxHeartbeats 4000000 in
theorem xX9_isRow_20 {G : Gx} (hG : gLy G = LyC) {σ : Sg} {Q : Int32 → Sg → Prop} (h : wX9_isRow_20 σ Q) : X G mX9_isRow 2 20 [] [] σ (qi Q) := by
  unfold wX9_isRow_20 at h
  refine x_iconst (v := (1 : Int32)) dX9_isRow_20 rfl ?_
  refine x_goto dX9_isRow_21 25 (by decide) ?_
  exact x_zret rfl bz_1 dX9_isRow_25 ⟨_, rfl, h⟩
def wX9_isRow (σ : Sg) (l0 : Int64) (Q : Int32 → Sg → Prop) : Prop :=
  wX9_sort σ l0 (fun r2 σ1 =>
  (r2 = (2 : Int32) → (
    wX9_isRow_20 σ1 Q
  )) ∧ (¬ r2 = (2 : Int32) → (
    (r2 = (3 : Int32) → (
      wX9_isRow_20 σ1 Q
    )) ∧ (¬ r2 = (3 : Int32) → (
      (r2 = (4 : Int32) → (
        wX9_isRow_20 σ1 Q
      )) ∧ (¬ r2 = (4 : Int32) → (
        Q (0 : Int32) σ1
      ))
    ))
  ))
  )
set_option maxRecDepth 100000 in
set_option maxHeartbeats 4000000 in
theorem xX9_isRow {G : Gx} (hG : gLy G = LyC) {σ : Sg} {l0 : Int64} {Q : Int32 → Sg → Prop} (h : wX9_isRow σ l0 Q) : X G mX9_isRow 2 0 [(0, .long l0)] [] σ (qi Q) := by
  unfold wX9_isRow at h
  refine x_lload_n dX9_isRow_0 rfl 0 rfl ?_
  refine x_callSi [_] ms_X9_sort lk_X9_9 rfl ⟨by decide, by decide⟩ rfl (Nat.le_of_ble_eq_true rfl) dX9_isRow_1 (ct_X9_sort hG h) (fun r2 σ1 h => ?_)
  refine x_istore_n dX9_isRow_4 rfl (Nat.le_of_ble_eq_true rfl) (lv' := [(2, _), (0, _)]) rfl ?_
  refine x_iload_n dX9_isRow_5 rfl 0 rfl ?_
  refine x_iconst (v := (2 : Int32)) dX9_isRow_6 rfl ?_
  refine x_icmp_eq dX9_isRow_7 20 (by decide) (fun c => ?_) (fun c => ?_)
  · replace h := h.1 c
    exact x_sub [] rfl (xX9_isRow_20 hG h)
  · replace h := h.2 c
    refine x_iload_n dX9_isRow_10 rfl 0 rfl ?_
    refine x_iconst (v := (3 : Int32)) dX9_isRow_11 rfl ?_
    refine x_icmp_eq dX9_isRow_12 20 (by decide) (fun c => ?_) (fun c => ?_)
    · replace h := h.1 c
      exact x_sub [] rfl (xX9_isRow_20 hG h)
    · replace h := h.2 c
      refine x_iload_n dX9_isRow_15 rfl 0 rfl ?_
      refine x_iconst (v := (4 : Int32)) dX9_isRow_16 rfl ?_
      refine x_icmp_ne dX9_isRow_17 24 (by decide) (fun c => ?_) (fun c => ?_)
      · replace h := h.1 c
        exact x_sub [] rfl (xX9_isRow_20 hG h)
      · replace h := h.2 c
        refine x_iconst (v := (0 : Int32)) dX9_isRow_24 rfl ?_
        exact x_zret rfl bz_0 dX9_isRow_25 ⟨_, rfl, h⟩
theorem ct_X9_isRow {G : Gx} (hG : gLy G = LyC) {σ : Sg} {l0 : Int64} {Q : Int32 → Sg → Prop} (h : wX9_isRow σ l0 Q) : CT G mX9_isRow 2 [.long l0] σ (qi Q) := ct_of rfl (Nat.le_of_ble_eq_true rfl) rfl (xX9_isRow hG h)
/-! X9_isRowForLinks isRowForLinks -/
def wX9_isRowForLinks_15 (σ : Sg) (Q : Int32 → Sg → Prop) : Prop :=
  Q (1 : Int32) σ
set_option maxRecDepth 100000 in
set_option maxHeartbeats 4000000 in
theorem xX9_isRowForLinks_15 {G : Gx} (hG : gLy G = LyC) {σ : Sg} {Q : Int32 → Sg → Prop} (h : wX9_isRowForLinks_15 σ Q) : X G mX9_isRowForLinks 2 15 [] [] σ (qi Q) := by
  unfold wX9_isRowForLinks_15 at h
  refine x_iconst (v := (1 : Int32)) dX9_isRowForLinks_15 rfl ?_
  refine x_goto dX9_isRowForLinks_16 20 (by decide) ?_
  exact x_zret rfl bz_1 dX9_isRowForLinks_20 ⟨_, rfl, h⟩
def wX9_isRowForLinks (σ : Sg) (l0 : Int64) (Q : Int32 → Sg → Prop) : Prop :=
  wX9_sort σ l0 (fun r2 σ1 =>
  (r2 = (3 : Int32) → (
    wX9_isRowForLinks_15 σ1 Q
  )) ∧ (¬ r2 = (3 : Int32) → (
    (r2 = (4 : Int32) → (
      wX9_isRowForLinks_15 σ1 Q
    )) ∧ (¬ r2 = (4 : Int32) → (
      Q (0 : Int32) σ1
    ))
  ))
  )
set_option maxRecDepth 100000 in
set_option maxHeartbeats 4000000 in
theorem xX9_isRowForLinks {G : Gx} (hG : gLy G = LyC) {σ : Sg} {l0 : Int64} {Q : Int32 → Sg → Prop} (h : wX9_isRowForLinks σ l0 Q) : X G mX9_isRowForLinks 2 0 [(0, .long l0)] [] σ (qi Q) := by
  unfold wX9_isRowForLinks at h
  refine x_lload_n dX9_isRowForLinks_0 rfl 0 rfl ?_
  refine x_callSi [_] ms_X9_sort lk_X9_9 rfl ⟨by decide, by decide⟩ rfl (Nat.le_of_ble_eq_true rfl) dX9_isRowForLinks_1 (ct_X9_sort hG h) (fun r2 σ1 h => ?_)
  refine x_istore_n dX9_isRowForLinks_4 rfl (Nat.le_of_ble_eq_true rfl) (lv' := [(2, _), (0, _)]) rfl ?_
  refine x_iload_n dX9_isRowForLinks_5 rfl 0 rfl ?_
  refine x_iconst (v := (3 : Int32)) dX9_isRowForLinks_6 rfl ?_
  refine x_icmp_eq dX9_isRowForLinks_7 15 (by decide) (fun c => ?_) (fun c => ?_)
  · replace h := h.1 c
    exact x_sub [] rfl (xX9_isRowForLinks_15 hG h)
  · replace h := h.2 c
    refine x_iload_n dX9_isRowForLinks_10 rfl 0 rfl ?_
    refine x_iconst (v := (4 : Int32)) dX9_isRowForLinks_11 rfl ?_
    refine x_icmp_ne dX9_isRowForLinks_12 19 (by decide) (fun c => ?_) (fun c => ?_)
    · replace h := h.1 c
      exact x_sub [] rfl (xX9_isRowForLinks_15 hG h)
    · replace h := h.2 c
      refine x_iconst (v := (0 : Int32)) dX9_isRowForLinks_19 rfl ?_
      exact x_zret rfl bz_0 dX9_isRowForLinks_20 ⟨_, rfl, h⟩
theorem ct_X9_isRowForLinks {G : Gx} (hG : gLy G = LyC) {σ : Sg} {l0 : Int64} {Q : Int32 → Sg → Prop} (h : wX9_isRowForLinks σ l0 Q) : CT G mX9_isRowForLinks 2 [.long l0] σ (qi Q) := ct_of rfl (Nat.le_of_ble_eq_true rfl) rfl (xX9_isRowForLinks hG h)
/-! X9_isLinkOrNothing isLinkOrNothing -/
def wX9_isLinkOrNothing_21 (σ : Sg) (Q : Int32 → Sg → Prop) : Prop :=
  Q (1 : Int32) σ
set_option maxRecDepth 100000 in
set_option maxHeartbeats 4000000 in
theorem xX9_isLinkOrNothing_21 {G : Gx} (hG : gLy G = LyC) {σ : Sg} {Q : Int32 → Sg → Prop} (h : wX9_isLinkOrNothing_21 σ Q) : X G mX9_isLinkOrNothing 2 21 [] [] σ (qi Q) := by
  unfold wX9_isLinkOrNothing_21 at h
  refine x_iconst (v := (1 : Int32)) dX9_isLinkOrNothing_21 rfl ?_
  refine x_goto dX9_isLinkOrNothing_22 26 (by decide) ?_
  exact x_zret rfl bz_1 dX9_isLinkOrNothing_26 ⟨_, rfl, h⟩
def wX9_isLinkOrNothing (σ : Sg) (l0 : Int64) (Q : Int32 → Sg → Prop) : Prop :=
  wX9_sort σ l0 (fun r2 σ1 =>
  (r2 = (5 : Int32) → (
    wX9_isLinkOrNothing_21 σ1 Q
  )) ∧ (¬ r2 = (5 : Int32) → (
    (r2 = (6 : Int32) → (
      wX9_isLinkOrNothing_21 σ1 Q
    )) ∧ (¬ r2 = (6 : Int32) → (
      (r2 = (1 : Int32) → (
        wX9_isLinkOrNothing_21 σ1 Q
      )) ∧ (¬ r2 = (1 : Int32) → (
        Q (0 : Int32) σ1
      ))
    ))
  ))
  )
set_option maxRecDepth 100000 in
set_option maxHeartbeats 4000000 in
theorem xX9_isLinkOrNothing {G : Gx} (hG : gLy G = LyC) {σ : Sg} {l0 : Int64} {Q : Int32 → Sg → Prop} (h : wX9_isLinkOrNothing σ l0 Q) : X G mX9_isLinkOrNothing 2 0 [(0, .long l0)] [] σ (qi Q) := by
  unfold wX9_isLinkOrNothing at h
  refine x_lload_n dX9_isLinkOrNothing_0 rfl 0 rfl ?_
  refine x_callSi [_] ms_X9_sort lk_X9_9 rfl ⟨by decide, by decide⟩ rfl (Nat.le_of_ble_eq_true rfl) dX9_isLinkOrNothing_1 (ct_X9_sort hG h) (fun r2 σ1 h => ?_)
  refine x_istore_n dX9_isLinkOrNothing_4 rfl (Nat.le_of_ble_eq_true rfl) (lv' := [(2, _), (0, _)]) rfl ?_
  refine x_iload_n dX9_isLinkOrNothing_5 rfl 0 rfl ?_
  refine x_iconst (v := (5 : Int32)) dX9_isLinkOrNothing_6 rfl ?_
  refine x_icmp_eq dX9_isLinkOrNothing_7 21 (by decide) (fun c => ?_) (fun c => ?_)
  · replace h := h.1 c
    exact x_sub [] rfl (xX9_isLinkOrNothing_21 hG h)
  · replace h := h.2 c
    refine x_iload_n dX9_isLinkOrNothing_10 rfl 0 rfl ?_
    refine x_bipush (v := (6 : Int32)) dX9_isLinkOrNothing_11 rfl ?_
    refine x_icmp_eq dX9_isLinkOrNothing_13 21 (by decide) (fun c => ?_) (fun c => ?_)
    · replace h := h.1 c
      exact x_sub [] rfl (xX9_isLinkOrNothing_21 hG h)
    · replace h := h.2 c
      refine x_iload_n dX9_isLinkOrNothing_16 rfl 0 rfl ?_
      refine x_iconst (v := (1 : Int32)) dX9_isLinkOrNothing_17 rfl ?_
      refine x_icmp_ne dX9_isLinkOrNothing_18 25 (by decide) (fun c => ?_) (fun c => ?_)
      · replace h := h.1 c
        exact x_sub [] rfl (xX9_isLinkOrNothing_21 hG h)
      · replace h := h.2 c
        refine x_iconst (v := (0 : Int32)) dX9_isLinkOrNothing_25 rfl ?_
        exact x_zret rfl bz_0 dX9_isLinkOrNothing_26 ⟨_, rfl, h⟩
theorem ct_X9_isLinkOrNothing {G : Gx} (hG : gLy G = LyC) {σ : Sg} {l0 : Int64} {Q : Int32 → Sg → Prop} (h : wX9_isLinkOrNothing σ l0 Q) : CT G mX9_isLinkOrNothing 2 [.long l0] σ (qi Q) := ct_of rfl (Nat.le_of_ble_eq_true rfl) rfl (xX9_isLinkOrNothing hG h)
/-! X9_isStrange isStrange -/
def wX9_isStrange (σ : Sg) (l0 : Int64) (l2 : Int64) (Q : Int32 → Sg → Prop) : Prop :=
  wX9_sort σ l0 (fun r2 σ1 =>
  (r2 = (4 : Int32) → (
    wX9_sort σ1 l2 (fun r4 σ3 =>
    (r4 = (5 : Int32) → (
      Q (1 : Int32) σ3
    )) ∧ (¬ r4 = (5 : Int32) → (
      Q (0 : Int32) σ3
    ))
    )
  )) ∧ (¬ r2 = (4 : Int32) → (
    Q (0 : Int32) σ1
  ))
  )
set_option maxRecDepth 100000 in
set_option maxHeartbeats 4000000 in
theorem xX9_isStrange {G : Gx} (hG : gLy G = LyC) {σ : Sg} {l0 : Int64} {l2 : Int64} {Q : Int32 → Sg → Prop} (h : wX9_isStrange σ l0 l2 Q) : X G mX9_isStrange 2 0 [(0, .long l0), (2, .long l2)] [] σ (qi Q) := by
  unfold wX9_isStrange at h
  refine x_lload_n dX9_isStrange_0 rfl 0 rfl ?_
  refine x_callSi [_] ms_X9_sort lk_X9_9 rfl ⟨by decide, by decide⟩ rfl (Nat.le_of_ble_eq_true rfl) dX9_isStrange_1 (ct_X9_sort hG h) (fun r2 σ1 h => ?_)
  refine x_iconst (v := (4 : Int32)) dX9_isStrange_4 rfl ?_
  refine x_icmp_ne dX9_isStrange_5 20 (by decide) (fun c => ?_) (fun c => ?_)
  · replace h := h.1 c
    refine x_lload_n dX9_isStrange_8 rfl 1 rfl ?_
    refine x_callSi [_] ms_X9_sort lk_X9_9 rfl ⟨by decide, by decide⟩ rfl (Nat.le_of_ble_eq_true rfl) dX9_isStrange_9 (ct_X9_sort hG h) (fun r4 σ3 h => ?_)
    refine x_iconst (v := (5 : Int32)) dX9_isStrange_12 rfl ?_
    refine x_icmp_ne dX9_isStrange_13 20 (by decide) (fun c => ?_) (fun c => ?_)
    · replace h := h.1 c
      refine x_iconst (v := (1 : Int32)) dX9_isStrange_16 rfl ?_
      refine x_goto dX9_isStrange_17 21 (by decide) ?_
      exact x_zret rfl bz_1 dX9_isStrange_21 ⟨_, rfl, h⟩
    · replace h := h.2 c
      refine x_iconst (v := (0 : Int32)) dX9_isStrange_20 rfl ?_
      exact x_zret rfl bz_0 dX9_isStrange_21 ⟨_, rfl, h⟩
  · replace h := h.2 c
    refine x_iconst (v := (0 : Int32)) dX9_isStrange_20 rfl ?_
    exact x_zret rfl bz_0 dX9_isStrange_21 ⟨_, rfl, h⟩
theorem ct_X9_isStrange {G : Gx} (hG : gLy G = LyC) {σ : Sg} {l0 : Int64} {l2 : Int64} {Q : Int32 → Sg → Prop} (h : wX9_isStrange σ l0 l2 Q) : CT G mX9_isStrange 2 [.long l0, .long l2] σ (qi Q) := ct_of rfl (Nat.le_of_ble_eq_true rfl) rfl (xX9_isStrange hG h)
/-! X9_isLink isLink -/
def wX9_isLink_16 (σ : Sg) (Q : Int32 → Sg → Prop) : Prop :=
  Q (1 : Int32) σ
set_option maxRecDepth 100000 in
set_option maxHeartbeats 4000000 in
theorem xX9_isLink_16 {G : Gx} (hG : gLy G = LyC) {σ : Sg} {Q : Int32 → Sg → Prop} (h : wX9_isLink_16 σ Q) : X G mX9_isLink 2 16 [] [] σ (qi Q) := by
  unfold wX9_isLink_16 at h
  refine x_iconst (v := (1 : Int32)) dX9_isLink_16 rfl ?_
  refine x_goto dX9_isLink_17 21 (by decide) ?_
  exact x_zret rfl bz_1 dX9_isLink_21 ⟨_, rfl, h⟩
def wX9_isLink (σ : Sg) (l0 : Int64) (Q : Int32 → Sg → Prop) : Prop :=
  wX9_sort σ l0 (fun r2 σ1 =>
  (r2 = (5 : Int32) → (
    wX9_isLink_16 σ1 Q
  )) ∧ (¬ r2 = (5 : Int32) → (
    (r2 = (6 : Int32) → (
      wX9_isLink_16 σ1 Q
    )) ∧ (¬ r2 = (6 : Int32) → (
      Q (0 : Int32) σ1
    ))
  ))
  )
set_option maxRecDepth 100000 in
set_option maxHeartbeats 4000000 in
theorem xX9_isLink {G : Gx} (hG : gLy G = LyC) {σ : Sg} {l0 : Int64} {Q : Int32 → Sg → Prop} (h : wX9_isLink σ l0 Q) : X G mX9_isLink 2 0 [(0, .long l0)] [] σ (qi Q) := by
  unfold wX9_isLink at h
  refine x_lload_n dX9_isLink_0 rfl 0 rfl ?_
  refine x_callSi [_] ms_X9_sort lk_X9_9 rfl ⟨by decide, by decide⟩ rfl (Nat.le_of_ble_eq_true rfl) dX9_isLink_1 (ct_X9_sort hG h) (fun r2 σ1 h => ?_)
  refine x_istore_n dX9_isLink_4 rfl (Nat.le_of_ble_eq_true rfl) (lv' := [(2, _), (0, _)]) rfl ?_
  refine x_iload_n dX9_isLink_5 rfl 0 rfl ?_
  refine x_iconst (v := (5 : Int32)) dX9_isLink_6 rfl ?_
  refine x_icmp_eq dX9_isLink_7 16 (by decide) (fun c => ?_) (fun c => ?_)
  · replace h := h.1 c
    exact x_sub [] rfl (xX9_isLink_16 hG h)
  · replace h := h.2 c
    refine x_iload_n dX9_isLink_10 rfl 0 rfl ?_
    refine x_bipush (v := (6 : Int32)) dX9_isLink_11 rfl ?_
    refine x_icmp_ne dX9_isLink_13 20 (by decide) (fun c => ?_) (fun c => ?_)
    · replace h := h.1 c
      exact x_sub [] rfl (xX9_isLink_16 hG h)
    · replace h := h.2 c
      refine x_iconst (v := (0 : Int32)) dX9_isLink_20 rfl ?_
      exact x_zret rfl bz_0 dX9_isLink_21 ⟨_, rfl, h⟩
theorem ct_X9_isLink {G : Gx} (hG : gLy G = LyC) {σ : Sg} {l0 : Int64} {Q : Int32 → Sg → Prop} (h : wX9_isLink σ l0 Q) : CT G mX9_isLink 2 [.long l0] σ (qi Q) := ct_of rfl (Nat.le_of_ble_eq_true rfl) rfl (xX9_isLink hG h)
/-! X9_of of -/
def wX9_of (σ : Sg) (l0 : Int32) (l1 : Int32) (Q : Int64 → Sg → Prop) : Prop :=
  Q (((l0).toInt64 <<< (((32 : Int32)).toInt64 &&& 63)) ||| ((l1).toInt64 &&& (4294967295 : Int64))) σ
set_option maxRecDepth 100000 in
set_option maxHeartbeats 4000000 in
theorem xX9_of {G : Gx} (hG : gLy G = LyC) {σ : Sg} {l0 : Int32} {l1 : Int32} {Q : Int64 → Sg → Prop} (h : wX9_of σ l0 l1 Q) : X G mX9_of 1 0 [(0, .int l0), (1, .int l1)] [] σ (ql Q) := by
  unfold wX9_of at h
  refine x_iload_n dX9_of_0 rfl 0 rfl ?_
  refine x_i2l dX9_of_1 ?_
  refine x_bipush (v := (32 : Int32)) dX9_of_2 rfl ?_
  refine x_lshl dX9_of_4 ?_
  refine x_iload_n dX9_of_5 rfl 1 rfl ?_
  refine x_i2l dX9_of_6 ?_
  refine x_ldc2 dX9_of_7 cl_X9_7 ?_
  refine x_land dX9_of_10 ?_
  refine x_lor dX9_of_11 ?_
  exact x_lret rfl dX9_of_12 ⟨_, rfl, h⟩
theorem ct_X9_of {G : Gx} (hG : gLy G = LyC) {σ : Sg} {l0 : Int32} {l1 : Int32} {Q : Int64 → Sg → Prop} (h : wX9_of σ l0 l1 Q) : CT G mX9_of 1 [.int l0, .int l1] σ (ql Q) := ct_of rfl (Nat.le_of_ble_eq_true rfl) rfl (xX9_of hG h)
/-! X9_whole whole -/
def wX9_whole (σ : Sg) (l0 : Int32) (Q : Int64 → Sg → Prop) : Prop :=
  Q ((l0).toInt64 &&& (4294967295 : Int64)) σ
set_option maxRecDepth 100000 in
set_option maxHeartbeats 4000000 in
theorem xX9_whole {G : Gx} (hG : gLy G = LyC) {σ : Sg} {l0 : Int32} {Q : Int64 → Sg → Prop} (h : wX9_whole σ l0 Q) : X G mX9_whole 1 0 [(0, .int l0)] [] σ (ql Q) := by
  unfold wX9_whole at h
  refine x_iload_n dX9_whole_0 rfl 0 rfl ?_
  refine x_i2l dX9_whole_1 ?_
  refine x_ldc2 dX9_whole_2 cl_X9_7 ?_
  refine x_land dX9_whole_5 ?_
  exact x_lret rfl dX9_whole_6 ⟨_, rfl, h⟩
theorem ct_X9_whole {G : Gx} (hG : gLy G = LyC) {σ : Sg} {l0 : Int32} {Q : Int64 → Sg → Prop} (h : wX9_whole σ l0 Q) : CT G mX9_whole 1 [.int l0] σ (ql Q) := ct_of rfl (Nat.le_of_ble_eq_true rfl) rfl (xX9_whole hG h)
/-! X9_truth truth -/
def wX9_truth (σ : Sg) (l0 : Int32) (Q : Int64 → Sg → Prop) : Prop :=
  (l0 = 0 → (
    Q (0 : Int64) σ
  )) ∧ (¬ l0 = 0 → (
    Q (1 : Int64) σ
  ))
set_option maxRecDepth 100000 in
set_option maxHeartbeats 4000000 in
theorem xX9_truth {G : Gx} (hG : gLy G = LyC) {σ : Sg} {l0 : Int32} {Q : Int64 → Sg → Prop} (h : wX9_truth σ l0 Q) : X G mX9_truth 1 0 [(0, .int l0)] [] σ (ql Q) := by
  unfold wX9_truth at h
  refine x_iload_n dX9_truth_0 rfl 0 rfl ?_
  refine x_if_eq dX9_truth_1 8 (by decide) (fun c => ?_) (fun c => ?_)
  · replace h := h.1 c
    refine x_lconst (v := (0 : Int64)) dX9_truth_8 rfl ?_
    exact x_lret rfl dX9_truth_9 ⟨_, rfl, h⟩
  · replace h := h.2 c
    refine x_lconst (v := (1 : Int64)) dX9_truth_4 rfl ?_
    refine x_goto dX9_truth_5 9 (by decide) ?_
    exact x_lret rfl dX9_truth_9 ⟨_, rfl, h⟩
theorem ct_X9_truth {G : Gx} (hG : gLy G = LyC) {σ : Sg} {l0 : Int32} {Q : Int64 → Sg → Prop} (h : wX9_truth σ l0 Q) : CT G mX9_truth 1 [.int l0] σ (ql Q) := ct_of rfl (Nat.le_of_ble_eq_true rfl) rfl (xX9_truth hG h)
