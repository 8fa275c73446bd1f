/-! X2_ofThing ofThing -/
def wX2_ofThing (σ : Sg) (l0 : Int64) (l2 : Int32) (Q : Int32 → Sg → Prop) : Prop :=
  (l2 = 0 → (
    ((lg_cmp l0 (4294967296 : Int64)) = 0 → (
      Q (1 : Int32) σ
    )) ∧ (¬ (lg_cmp l0 (4294967296 : Int64)) = 0 → (
      Q (4 : Int32) σ
    ))
  )) ∧ (¬ l2 = 0 → (
    Q (0 : Int32) σ
  ))
set_option maxRecDepth 100000 in
set_option maxHeartbeats 4000000 in
theorem xX2_ofThing {G : Gx} (hG : gLy G = LyC) {σ : Sg} {l0 : Int64} {l2 : Int32} {Q : Int32 → Sg → Prop} (h : wX2_ofThing σ l0 l2 Q) : X G mX2_ofThing 1 0 [(0, .long l0), (2, .int l2)] [] σ (qi Q) := by
  unfold wX2_ofThing at h
  refine x_iload_n dX2_ofThing_0 rfl 1 rfl ?_
  refine x_if_eq dX2_ofThing_1 6 (by decide) (fun c => ?_) (fun c => ?_)
  · replace h := h.1 c
    refine x_lload_n dX2_ofThing_6 rfl 0 rfl ?_
    refine x_ldc2 dX2_ofThing_7 cl_X2_56 ?_
    refine x_lcmp dX2_ofThing_10 ?_
    refine x_if_ne dX2_ofThing_11 18 (by decide) (fun c => ?_) (fun c => ?_)
    · replace h := h.1 c
      refine x_iconst (v := (1 : Int32)) dX2_ofThing_14 rfl ?_
      refine x_goto dX2_ofThing_15 19 (by decide) ?_
      exact x_iret rfl dX2_ofThing_19 ⟨_, rfl, h⟩
    · replace h := h.2 c
      refine x_iconst (v := (4 : Int32)) dX2_ofThing_18 rfl ?_
      exact x_iret rfl dX2_ofThing_19 ⟨_, rfl, h⟩
  · replace h := h.2 c
    refine x_iconst (v := (0 : Int32)) dX2_ofThing_4 rfl ?_
    exact x_iret rfl dX2_ofThing_5 ⟨_, rfl, h⟩
theorem ct_X2_ofThing {G : Gx} (hG : gLy G = LyC) {σ : Sg} {l0 : Int64} {l2 : Int32} {Q : Int32 → Sg → Prop} (h : wX2_ofThing σ l0 l2 Q) : CT G mX2_ofThing 1 [.long l0, .int l2] σ (qi Q) := ct_of rfl (Nat.le_of_ble_eq_true rfl) rfl (xX2_ofThing hG h)
/-! X2_ofWhole ofWhole -/
def wX2_ofWhole_13 (σ : Sg) (s0 : Int64) (s1 : Int32) (Q : Int32 → Sg → Prop) : Prop :=
  wX2_ofThing σ s0 s1 (fun r2 σ1 =>
  Q r2 σ1
  )
set_option maxRecDepth 100000 in
set_option maxHeartbeats 4000000 in
theorem xX2_ofWhole_13 {G : Gx} (hG : gLy G = LyC) {σ : Sg} {s0 : Int64} {s1 : Int32} {Q : Int32 → Sg → Prop} (h : wX2_ofWhole_13 σ s0 s1 Q) : X G mX2_ofWhole 2 13 [] [.int s1, .long s0] σ (qi Q) := by
  unfold wX2_ofWhole_13 at h
  refine x_callSi [_, _] ms_X2_ofThing lk_X2_30 rfl ⟨by decide, by decide⟩ rfl (Nat.le_of_ble_eq_true rfl) dX2_ofWhole_13 (ct_X2_ofThing hG h) (fun r2 σ1 h => ?_)
  exact x_iret rfl dX2_ofWhole_16 ⟨_, rfl, h⟩
def wX2_ofWhole (σ : Sg) (l0 : Int64) (Q : Int32 → Sg → Prop) : Prop :=
  wX9_sort σ l0 (fun r2 σ1 =>
  (r2 = 0 → (
    wX2_ofWhole_13 σ1 l0 (1 : Int32) Q
  )) ∧ (¬ r2 = 0 → (
    wX2_ofWhole_13 σ1 l0 (0 : Int32) Q
  ))
  )
set_option maxRecDepth 100000 in
set_option maxHeartbeats 4000000 in
theorem xX2_ofWhole {G : Gx} (hG : gLy G = LyC) {σ : Sg} {l0 : Int64} {Q : Int32 → Sg → Prop} (h : wX2_ofWhole σ l0 Q) : X G mX2_ofWhole 2 0 [(0, .long l0)] [] σ (qi Q) := by
  unfold wX2_ofWhole at h
  refine x_lload_n dX2_ofWhole_0 rfl 0 rfl ?_
  refine x_lload_n dX2_ofWhole_1 rfl 0 rfl ?_
  refine x_callSi [_] ms_X9_sort lk_X2_53 rfl ⟨by decide, by decide⟩ rfl (Nat.le_of_ble_eq_true rfl) dX2_ofWhole_2 (ct_X9_sort hG h) (fun r2 σ1 h => ?_)
  refine x_if_ne dX2_ofWhole_5 12 (by decide) (fun c => ?_) (fun c => ?_)
  · replace h := h.1 c
    refine x_iconst (v := (1 : Int32)) dX2_ofWhole_8 rfl ?_
    refine x_goto dX2_ofWhole_9 13 (by decide) ?_
    exact x_sub [] rfl (xX2_ofWhole_13 hG h)
  · replace h := h.2 c
    refine x_iconst (v := (0 : Int32)) dX2_ofWhole_12 rfl ?_
    exact x_sub [] rfl (xX2_ofWhole_13 hG h)
theorem ct_X2_ofWhole {G : Gx} (hG : gLy G = LyC) {σ : Sg} {l0 : Int64} {Q : Int32 → Sg → Prop} (h : wX2_ofWhole σ l0 Q) : CT G mX2_ofWhole 2 [.long l0] σ (qi Q) := ct_of rfl (Nat.le_of_ble_eq_true rfl) rfl (xX2_ofWhole hG h)
/-! X2_firstOf firstOf -/
def wX2_firstOf (σ : Sg) (l0 : Int32) (l1 : Int32) (l2 : Int32) (Q : Int32 → Sg → Prop) : Prop :=
  (l0 = 0 → (
    (l1 = 0 → (
      Q l2 σ
    )) ∧ (¬ l1 = 0 → (
      Q l1 σ
    ))
  )) ∧ (¬ l0 = 0 → (
    Q l0 σ
  ))
set_option maxRecDepth 100000 in
set_option maxHeartbeats 4000000 in
theorem xX2_firstOf {G : Gx} (hG : gLy G = LyC) {σ : Sg} {l0 : Int32} {l1 : Int32} {l2 : Int32} {Q : Int32 → Sg → Prop} (h : wX2_firstOf σ l0 l1 l2 Q) : X G mX2_firstOf 1 0 [(0, .int l0), (1, .int l1), (2, .int l2)] [] σ (qi Q) := by
  unfold wX2_firstOf at h
  refine x_iload_n dX2_firstOf_0 rfl 0 rfl ?_
  refine x_if_eq dX2_firstOf_1 6 (by decide) (fun c => ?_) (fun c => ?_)
  · replace h := h.1 c
    refine x_iload_n dX2_firstOf_6 rfl 1 rfl ?_
    refine x_if_eq dX2_firstOf_7 14 (by decide) (fun c => ?_) (fun c => ?_)
    · replace h := h.1 c
      refine x_iload_n dX2_firstOf_14 rfl 2 rfl ?_
      exact x_iret rfl dX2_firstOf_15 ⟨_, rfl, h⟩
    · replace h := h.2 c
      refine x_iload_n dX2_firstOf_10 rfl 1 rfl ?_
      refine x_goto dX2_firstOf_11 15 (by decide) ?_
      exact x_iret rfl dX2_firstOf_15 ⟨_, rfl, h⟩
  · replace h := h.2 c
    refine x_iload_n dX2_firstOf_4 rfl 0 rfl ?_
    exact x_iret rfl dX2_firstOf_5 ⟨_, rfl, h⟩
theorem ct_X2_firstOf {G : Gx} (hG : gLy G = LyC) {σ : Sg} {l0 : Int32} {l1 : Int32} {l2 : Int32} {Q : Int32 → Sg → Prop} (h : wX2_firstOf σ l0 l1 l2 Q) : CT G mX2_firstOf 1 [.int l0, .int l1, .int l2] σ (qi Q) := ct_of rfl (Nat.le_of_ble_eq_true rfl) rfl (xX2_firstOf hG h)
/-! X2_ofLength ofLength -/
def wX2_ofLength (σ : Sg) (l0 : Int32) (Q : Int32 → Sg → Prop) : Prop :=
  (l0 < 0 → (
    Q (3 : Int32) σ
  )) ∧ (¬ l0 < 0 → (
    ((16 : Int32) < l0 → (
      Q (12 : Int32) σ
    )) ∧ (¬ (16 : Int32) < l0 → (
      Q (0 : Int32) σ
    ))
  ))
set_option maxRecDepth 100000 in
set_option maxHeartbeats 4000000 in
theorem xX2_ofLength {G : Gx} (hG : gLy G = LyC) {σ : Sg} {l0 : Int32} {Q : Int32 → Sg → Prop} (h : wX2_ofLength σ l0 Q) : X G mX2_ofLength 1 0 [(0, .int l0)] [] σ (qi Q) := by
  unfold wX2_ofLength at h
  refine x_iload_n dX2_ofLength_0 rfl 0 rfl ?_
  refine x_if_ge dX2_ofLength_1 6 (by decide) (fun c => ?_) (fun c => ?_)
  · replace h := h.1 c
    refine x_iconst (v := (3 : Int32)) dX2_ofLength_4 rfl ?_
    exact x_iret rfl dX2_ofLength_5 ⟨_, rfl, h⟩
  · replace h := h.2 c
    refine x_iload_n dX2_ofLength_6 rfl 0 rfl ?_
    refine x_bipush (v := (16 : Int32)) dX2_ofLength_7 rfl ?_
    refine x_icmp_le dX2_ofLength_9 17 (by decide) (fun c => ?_) (fun c => ?_)
    · replace h := h.1 c
      refine x_bipush (v := (12 : Int32)) dX2_ofLength_12 rfl ?_
      refine x_goto dX2_ofLength_14 18 (by decide) ?_
      exact x_iret rfl dX2_ofLength_18 ⟨_, rfl, h⟩
    · replace h := h.2 c
      refine x_iconst (v := (0 : Int32)) dX2_ofLength_17 rfl ?_
      exact x_iret rfl dX2_ofLength_18 ⟨_, rfl, h⟩
theorem ct_X2_ofLength {G : Gx} (hG : gLy G = LyC) {σ : Sg} {l0 : Int32} {Q : Int32 → Sg → Prop} (h : wX2_ofLength σ l0 Q) : CT G mX2_ofLength 1 [.int l0] σ (qi Q) := ct_of rfl (Nat.le_of_ble_eq_true rfl) rfl (xX2_ofLength hG h)
/-! X2_ofPlace ofPlace -/
def wX2_ofPlace_9 (σ : Sg) (Q : Int32 → Sg → Prop) : Prop :=
  Q (2 : Int32) σ
set_option maxRecDepth 100000 in
set_option maxHeartbeats 4000000 in
theorem xX2_ofPlace_9 {G : Gx} (hG : gLy G = LyC) {σ : Sg} {Q : Int32 → Sg → Prop} (h : wX2_ofPlace_9 σ Q) : X G mX2_ofPlace 1 9 [] [] σ (qi Q) := by
  unfold wX2_ofPlace_9 at h
  refine x_iconst (v := (2 : Int32)) dX2_ofPlace_9 rfl ?_
  refine x_goto dX2_ofPlace_10 14 (by decide) ?_
  exact x_iret rfl dX2_ofPlace_14 ⟨_, rfl, h⟩
def wX2_ofPlace (σ : Sg) (l0 : Int32) (l1 : Int32) (Q : Int32 → Sg → Prop) : Prop :=
  (l0 < 0 → (
    wX2_ofPlace_9 σ Q
  )) ∧ (¬ l0 < 0 → (
    (l0 < l1 → (
      Q (0 : Int32) σ
    )) ∧ (¬ l0 < l1 → (
      wX2_ofPlace_9 σ Q
    ))
  ))
set_option maxRecDepth 100000 in
set_option maxHeartbeats 4000000 in
theorem xX2_ofPlace {G : Gx} (hG : gLy G = LyC) {σ : Sg} {l0 : Int32} {l1 : Int32} {Q : Int32 → Sg → Prop} (h : wX2_ofPlace σ l0 l1 Q) : X G mX2_ofPlace 1 0 [(0, .int l0), (1, .int l1)] [] σ (qi Q) := by
  unfold wX2_ofPlace at h
  refine x_iload_n dX2_ofPlace_0 rfl 0 rfl ?_
  refine x_if_lt dX2_ofPlace_1 9 (by decide) (fun c => ?_) (fun c => ?_)
  · replace h := h.1 c
    exact x_sub [] rfl (xX2_ofPlace_9 hG h)
  · replace h := h.2 c
    refine x_iload_n dX2_ofPlace_4 rfl 0 rfl ?_
    refine x_iload_n dX2_ofPlace_5 rfl 1 rfl ?_
    refine x_icmp_lt dX2_ofPlace_6 13 (by decide) (fun c => ?_) (fun c => ?_)
    · replace h := h.1 c
      refine x_iconst (v := (0 : Int32)) dX2_ofPlace_13 rfl ?_
      exact x_iret rfl dX2_ofPlace_14 ⟨_, rfl, h⟩
    · replace h := h.2 c
      exact x_sub [] rfl (xX2_ofPlace_9 hG h)
theorem ct_X2_ofPlace {G : Gx} (hG : gLy G = LyC) {σ : Sg} {l0 : Int32} {l1 : Int32} {Q : Int32 → Sg → Prop} (h : wX2_ofPlace σ l0 l1 Q) : CT G mX2_ofPlace 1 [.int l0, .int l1] σ (qi Q) := ct_of rfl (Nat.le_of_ble_eq_true rfl) rfl (xX2_ofPlace hG h)
/-! X2_ofWrite ofWrite -/
def wX2_ofWrite_73 (σ : Sg) (s0 : Int32) (s1 : Int32) (s2 : Int32) (Q : Int32 → Sg → Prop) : Prop :=
  wX2_firstOf σ s0 s1 s2 (fun r2 σ1 =>
  Q r2 σ1
  )
set_option maxRecDepth 100000 in
set_option maxHeartbeats 4000000 in
theorem xX2_ofWrite_73 {G : Gx} (hG : gLy G = LyC) {σ : Sg} {s0 : Int32} {s1 : Int32} {s2 : Int32} {Q : Int32 → Sg → Prop} (h : wX2_ofWrite_73 σ s0 s1 s2 Q) : X G mX2_ofWrite 3 73 [] [.int s2, .int s1, .int s0] σ (qi Q) := by
  unfold wX2_ofWrite_73 at h
  refine x_callSi [_, _, _] ms_X2_firstOf lk_X2_13 rfl ⟨by decide, by decide⟩ rfl (Nat.le_of_ble_eq_true rfl) dX2_ofWrite_73 (ct_X2_firstOf hG h) (fun r2 σ1 h => ?_)
  exact x_iret rfl dX2_ofWrite_76 ⟨_, rfl, h⟩
def wX2_ofWrite_29 (σ : Sg) (l0 : Int64) (l2 : Int64) (l4 : Int64) (l6 : Int32) (l7 : Int32) (Q : Int32 → Sg → Prop) : Prop :=
  wX2_ofWhole σ l2 (fun r2 σ1 =>
  wX9_isRow σ1 l0 (fun r4 σ3 =>
  wX2_ofThing σ3 l0 r4 (fun r6 σ5 =>
  wX2_firstOf σ5 r2 l7 r6 (fun r8 σ7 =>
  wX9_number σ7 l2 (fun r10 σ9 =>
  wX2_ofPlace σ9 r10 l6 (fun r12 σ11 =>
  wX9_isStrange σ11 l0 l4 (fun r14 σ13 =>
  (r14 = 0 → (
    wX2_ofWrite_73 σ13 r8 r12 (0 : Int32) Q
  )) ∧ (¬ r14 = 0 → (
    wX2_ofWrite_73 σ13 r8 r12 (5 : Int32) Q
  ))
  )
  )
  )
  )
  )
  )
  )
set_option maxRecDepth 100000 in
set_option maxHeartbeats 4000000 in
theorem xX2_ofWrite_29 {G : Gx} (hG : gLy G = LyC) {σ : Sg} {l0 : Int64} {l2 : Int64} {l4 : Int64} {l6 : Int32} {l7 : Int32} {Q : Int32 → Sg → Prop} (h : wX2_ofWrite_29 σ l0 l2 l4 l6 l7 Q) : X G mX2_ofWrite 3 29 [(0, .long l0), (2, .long l2), (4, .long l4), (6, .int l6), (7, .int l7)] [] σ (qi Q) := by
  unfold wX2_ofWrite_29 at h
  refine x_lload_n dX2_ofWrite_29 rfl 1 rfl ?_
  refine x_callSi [_] ms_X2_ofWhole lk_X2_7 rfl ⟨by decide, by decide⟩ rfl (Nat.le_of_ble_eq_true rfl) dX2_ofWrite_30 (ct_X2_ofWhole hG h) (fun r2 σ1 h => ?_)
  refine x_iload dX2_ofWrite_33 4 rfl ?_
  refine x_lload_n dX2_ofWrite_35 rfl 0 rfl ?_
  refine x_lload_n dX2_ofWrite_36 rfl 0 rfl ?_
  refine x_callSi [_] ms_X9_isRow lk_X2_26 rfl ⟨by decide, by decide⟩ rfl (Nat.le_of_ble_eq_true rfl) dX2_ofWrite_37 (ct_X9_isRow hG h) (fun r4 σ3 h => ?_)
  refine x_callSi [_, _] ms_X2_ofThing lk_X2_30 rfl ⟨by decide, by decide⟩ rfl (Nat.le_of_ble_eq_true rfl) dX2_ofWrite_40 (ct_X2_ofThing hG h) (fun r6 σ5 h => ?_)
  refine x_callSi [_, _, _] ms_X2_firstOf lk_X2_13 rfl ⟨by decide, by decide⟩ rfl (Nat.le_of_ble_eq_true rfl) dX2_ofWrite_43 (ct_X2_firstOf hG h) (fun r8 σ7 h => ?_)
  refine x_istore dX2_ofWrite_46 (Nat.le_of_ble_eq_true rfl) (lv' := [(8, _), (0, _), (2, _), (4, _), (6, _), (7, _)]) rfl ?_
  refine x_iload dX2_ofWrite_48 0 rfl ?_
  refine x_lload_n dX2_ofWrite_50 rfl 2 rfl ?_
  refine x_callSi [_] ms_X9_number lk_X2_17 rfl ⟨by decide, by decide⟩ rfl (Nat.le_of_ble_eq_true rfl) dX2_ofWrite_51 (ct_X9_number hG h) (fun r10 σ9 h => ?_)
  refine x_iload dX2_ofWrite_54 4 rfl ?_
  refine x_callSi [_, _] ms_X2_ofPlace lk_X2_34 rfl ⟨by decide, by decide⟩ rfl (Nat.le_of_ble_eq_true rfl) dX2_ofWrite_56 (ct_X2_ofPlace hG h) (fun r12 σ11 h => ?_)
  refine x_lload_n dX2_ofWrite_59 rfl 1 rfl ?_
  refine x_lload dX2_ofWrite_60 3 rfl ?_
  refine x_callSi [_, _] ms_X9_isStrange lk_X2_66 rfl ⟨by decide, by decide⟩ rfl (Nat.le_of_ble_eq_true rfl) dX2_ofWrite_62 (ct_X9_isStrange hG h) (fun r14 σ13 h => ?_)
  refine x_if_eq dX2_ofWrite_65 72 (by decide) (fun c => ?_) (fun c => ?_)
  · replace h := h.1 c
    refine x_iconst (v := (0 : Int32)) dX2_ofWrite_72 rfl ?_
    exact x_sub [] rfl (xX2_ofWrite_73 hG h)
  · replace h := h.2 c
    refine x_iconst (v := (5 : Int32)) dX2_ofWrite_68 rfl ?_
    refine x_goto dX2_ofWrite_69 73 (by decide) ?_
    exact x_sub [] rfl (xX2_ofWrite_73 hG h)
def wX2_ofWrite_27 (σ : Sg) (l0 : Int64) (l2 : Int64) (l4 : Int64) (l6 : Int32) (s0 : Int32) (Q : Int32 → Sg → Prop) : Prop :=
  wX2_ofWrite_29 σ l0 l2 l4 l6 s0 Q
set_option maxRecDepth 100000 in
set_option maxHeartbeats 4000000 in
theorem xX2_ofWrite_27 {G : Gx} (hG : gLy G = LyC) {σ : Sg} {l0 : Int64} {l2 : Int64} {l4 : Int64} {l6 : Int32} {s0 : Int32} {Q : Int32 → Sg → Prop} (h : wX2_ofWrite_27 σ l0 l2 l4 l6 s0 Q) : X G mX2_ofWrite 3 27 [(0, .long l0), (2, .long l2), (4, .long l4), (6, .int l6)] [.int s0] σ (qi Q) := by
  unfold wX2_ofWrite_27 at h
  refine x_istore dX2_ofWrite_27 (Nat.le_of_ble_eq_true rfl) (lv' := [(7, _), (0, _), (2, _), (4, _), (6, _)]) rfl ?_
  exact x_sub [1, 2, 3, 4, 0] rfl (xX2_ofWrite_29 hG h)
def wX2_ofWrite (σ : Sg) (l0 : Int64) (l2 : Int64) (l4 : Int64) (l6 : Int32) (Q : Int32 → Sg → Prop) : Prop :=
  wX2_ofWhole σ l4 (fun r2 σ1 =>
  wX9_isRowForLinks σ1 l0 (fun r4 σ3 =>
  (r4 = 0 → (
    wX2_ofWrite_29 σ3 l0 l2 l4 l6 r2 Q
  )) ∧ (¬ r4 = 0 → (
    wX9_isLinkOrNothing σ3 l4 (fun r6 σ5 =>
    (r6 = 0 → (
      wX2_ofWrite_27 σ5 l0 l2 l4 l6 (4 : Int32) Q
    )) ∧ (¬ r6 = 0 → (
      wX2_ofWrite_27 σ5 l0 l2 l4 l6 (0 : Int32) Q
    ))
    )
  ))
  )
  )
set_option maxRecDepth 100000 in
set_option maxHeartbeats 4000000 in
theorem xX2_ofWrite {G : Gx} (hG : gLy G = LyC) {σ : Sg} {l0 : Int64} {l2 : Int64} {l4 : Int64} {l6 : Int32} {Q : Int32 → Sg → Prop} (h : wX2_ofWrite σ l0 l2 l4 l6 Q) : X G mX2_ofWrite 3 0 [(0, .long l0), (2, .long l2), (4, .long l4), (6, .int l6)] [] σ (qi Q) := by
  unfold wX2_ofWrite at h
  refine x_lload dX2_ofWrite_0 2 rfl ?_
  refine x_callSi [_] ms_X2_ofWhole lk_X2_7 rfl ⟨by decide, by decide⟩ rfl (Nat.le_of_ble_eq_true rfl) dX2_ofWrite_2 (ct_X2_ofWhole hG h) (fun r2 σ1 h => ?_)
  refine x_istore dX2_ofWrite_5 (Nat.le_of_ble_eq_true rfl) (lv' := [(7, _), (0, _), (2, _), (4, _), (6, _)]) rfl ?_
  refine x_lload_n dX2_ofWrite_7 rfl 1 rfl ?_
  refine x_callSi [_] ms_X9_isRowForLinks lk_X2_60 rfl ⟨by decide, by decide⟩ rfl (Nat.le_of_ble_eq_true rfl) dX2_ofWrite_8 (ct_X9_isRowForLinks hG h) (fun r4 σ3 h => ?_)
  refine x_if_eq dX2_ofWrite_11 29 (by decide) (fun c => ?_) (fun c => ?_)
  · replace h := h.1 c
    exact x_sub [1, 2, 3, 4, 0] rfl (xX2_ofWrite_29 hG h)
  · replace h := h.2 c
    refine x_lload dX2_ofWrite_14 3 rfl ?_
    refine x_callSi [_] ms_X9_isLinkOrNothing lk_X2_63 rfl ⟨by decide, by decide⟩ rfl (Nat.le_of_ble_eq_true rfl) dX2_ofWrite_16 (ct_X9_isLinkOrNothing hG h) (fun r6 σ5 h => ?_)
    refine x_if_eq dX2_ofWrite_19 26 (by decide) (fun c => ?_) (fun c => ?_)
    · replace h := h.1 c
      refine x_iconst (v := (4 : Int32)) dX2_ofWrite_26 rfl ?_
      exact x_sub [1, 2, 3, 4] rfl (xX2_ofWrite_27 hG h)
    · replace h := h.2 c
      refine x_iconst (v := (0 : Int32)) dX2_ofWrite_22 rfl ?_
      refine x_goto dX2_ofWrite_23 27 (by decide) ?_
      exact x_sub [1, 2, 3, 4] rfl (xX2_ofWrite_27 hG h)
theorem ct_X2_ofWrite {G : Gx} (hG : gLy G = LyC) {σ : Sg} {l0 : Int64} {l2 : Int64} {l4 : Int64} {l6 : Int32} {Q : Int32 → Sg → Prop} (h : wX2_ofWrite σ l0 l2 l4 l6 Q) : CT G mX2_ofWrite 3 [.long l0, .long l2, .long l4, .int l6] σ (qi Q) := ct_of rfl (Nat.le_of_ble_eq_true rfl) rfl (xX2_ofWrite hG h)
/-! X2_ofCopy ofCopy -/
def wX2_ofCopy_77 (σ : Sg) (Q : Int32 → Sg → Prop) : Prop :=
  Q (2 : Int32) σ
set_option maxRecDepth 100000 in
set_option maxHeartbeats 4000000 in
theorem xX2_ofCopy_77 {G : Gx} (hG : gLy G = LyC) {σ : Sg} {Q : Int32 → Sg → Prop} (h : wX2_ofCopy_77 σ Q) : X G mX2_ofCopy 3 77 [] [] σ (qi Q) := by
  unfold wX2_ofCopy_77 at h
  refine x_iconst (v := (2 : Int32)) dX2_ofCopy_77 rfl ?_
  refine x_goto dX2_ofCopy_78 82 (by decide) ?_
  exact x_iret rfl dX2_ofCopy_82 ⟨_, rfl, h⟩
def wX2_ofCopy (σ : Sg) (l0 : Int64) (l2 : Int64) (l4 : Int64) (l6 : Int32) (Q : Int32 → Sg → Prop) : Prop :=
  wX2_ofWhole σ l4 (fun r2 σ1 =>
  (r2 = 0 → (
    ((lg_cmp l0 (4294967296 : Int64)) = 0 → (
      Q (1 : Int32) σ1
    )) ∧ (¬ (lg_cmp l0 (4294967296 : Int64)) = 0 → (
      ((lg_cmp l2 (4294967296 : Int64)) = 0 → (
        Q (1 : Int32) σ1
      )) ∧ (¬ (lg_cmp l2 (4294967296 : Int64)) = 0 → (
        wX9_isRow σ1 l0 (fun r4 σ3 =>
        (r4 = 0 → (
          Q (5 : Int32) σ3
        )) ∧ (¬ r4 = 0 → (
          wX9_isRow σ3 l2 (fun r6 σ5 =>
          (r6 = 0 → (
            Q (5 : Int32) σ5
          )) ∧ (¬ r6 = 0 → (
            wX9_isRowForLinks σ5 l0 (fun r8 σ7 =>
            wX9_isRowForLinks σ7 l2 (fun r10 σ9 =>
            (r8 = r10 → (
              wX9_number σ9 l4 (fun r12 σ11 =>
              (r12 < 0 → (
                wX2_ofCopy_77 σ11 Q
              )) ∧ (¬ r12 < 0 → (
                wX9_number σ11 l4 (fun r14 σ13 =>
                (l6 < r14 → (
                  wX2_ofCopy_77 σ13 Q
                )) ∧ (¬ l6 < r14 → (
                  Q (0 : Int32) σ13
                ))
                )
              ))
              )
            )) ∧ (¬ r8 = r10 → (
              Q (5 : Int32) σ9
            ))
            )
            )
          ))
          )
        ))
        )
      ))
    ))
  )) ∧ (¬ r2 = 0 → (
    wX2_ofWhole σ1 l4 (fun r16 σ15 =>
    Q r16 σ15
    )
  ))
  )
set_option maxRecDepth 100000 in
set_option maxHeartbeats 4000000 in
theorem xX2_ofCopy {G : Gx} (hG : gLy G = LyC) {σ : Sg} {l0 : Int64} {l2 : Int64} {l4 : Int64} {l6 : Int32} {Q : Int32 → Sg → Prop} (h : wX2_ofCopy σ l0 l2 l4 l6 Q) : X G mX2_ofCopy 3 0 [(0, .long l0), (2, .long l2), (4, .long l4), (6, .int l6)] [] σ (qi Q) := by
  unfold wX2_ofCopy at h
  refine x_lload dX2_ofCopy_0 2 rfl ?_
  refine x_callSi [_] ms_X2_ofWhole lk_X2_7 rfl ⟨by decide, by decide⟩ rfl (Nat.le_of_ble_eq_true rfl) dX2_ofCopy_2 (ct_X2_ofWhole hG h) (fun r2 σ1 h => ?_)
  refine x_if_eq dX2_ofCopy_5 14 (by decide) (fun c => ?_) (fun c => ?_)
  · replace h := h.1 c
    refine x_lload_n dX2_ofCopy_14 rfl 0 rfl ?_
    refine x_ldc2 dX2_ofCopy_15 cl_X2_56 ?_
    refine x_lcmp dX2_ofCopy_18 ?_
    refine x_if_eq dX2_ofCopy_19 30 (by decide) (fun c => ?_) (fun c => ?_)
    · replace h := h.1 c
      refine x_iconst (v := (1 : Int32)) dX2_ofCopy_30 rfl ?_
      exact x_iret rfl dX2_ofCopy_31 ⟨_, rfl, h⟩
    · replace h := h.2 c
      refine x_lload_n dX2_ofCopy_22 rfl 1 rfl ?_
      refine x_ldc2 dX2_ofCopy_23 cl_X2_56 ?_
      refine x_lcmp dX2_ofCopy_26 ?_
      refine x_if_ne dX2_ofCopy_27 32 (by decide) (fun c => ?_) (fun c => ?_)
      · replace h := h.1 c
        refine x_iconst (v := (1 : Int32)) dX2_ofCopy_30 rfl ?_
        exact x_iret rfl dX2_ofCopy_31 ⟨_, rfl, h⟩
      · replace h := h.2 c
        refine x_lload_n dX2_ofCopy_32 rfl 0 rfl ?_
        refine x_callSi [_] ms_X9_isRow lk_X2_26 rfl ⟨by decide, by decide⟩ rfl (Nat.le_of_ble_eq_true rfl) dX2_ofCopy_33 (ct_X9_isRow hG h) (fun r4 σ3 h => ?_)
        refine x_if_eq dX2_ofCopy_36 57 (by decide) (fun c => ?_) (fun c => ?_)
        · replace h := h.1 c
          refine x_iconst (v := (5 : Int32)) dX2_ofCopy_57 rfl ?_
          exact x_iret rfl dX2_ofCopy_58 ⟨_, rfl, h⟩
        · replace h := h.2 c
          refine x_lload_n dX2_ofCopy_39 rfl 1 rfl ?_
          refine x_callSi [_] ms_X9_isRow lk_X2_26 rfl ⟨by decide, by decide⟩ rfl (Nat.le_of_ble_eq_true rfl) dX2_ofCopy_40 (ct_X9_isRow hG h) (fun r6 σ5 h => ?_)
          refine x_if_eq dX2_ofCopy_43 57 (by decide) (fun c => ?_) (fun c => ?_)
          · replace h := h.1 c
            refine x_iconst (v := (5 : Int32)) dX2_ofCopy_57 rfl ?_
            exact x_iret rfl dX2_ofCopy_58 ⟨_, rfl, h⟩
          · replace h := h.2 c
            refine x_lload_n dX2_ofCopy_46 rfl 0 rfl ?_
            refine x_callSi [_] ms_X9_isRowForLinks lk_X2_60 rfl ⟨by decide, by decide⟩ rfl (Nat.le_of_ble_eq_true rfl) dX2_ofCopy_47 (ct_X9_isRowForLinks hG h) (fun r8 σ7 h => ?_)
            refine x_lload_n dX2_ofCopy_50 rfl 1 rfl ?_
            refine x_callSi [_] ms_X9_isRowForLinks lk_X2_60 rfl ⟨by decide, by decide⟩ rfl (Nat.le_of_ble_eq_true rfl) dX2_ofCopy_51 (ct_X9_isRowForLinks hG h) (fun r10 σ9 h => ?_)
            refine x_icmp_eq dX2_ofCopy_54 59 (by decide) (fun c => ?_) (fun c => ?_)
            · replace h := h.1 c
              refine x_lload dX2_ofCopy_59 2 rfl ?_
              refine x_callSi [_] ms_X9_number lk_X2_17 rfl ⟨by decide, by decide⟩ rfl (Nat.le_of_ble_eq_true rfl) dX2_ofCopy_61 (ct_X9_number hG h) (fun r12 σ11 h => ?_)
              refine x_if_lt dX2_ofCopy_64 77 (by decide) (fun c => ?_) (fun c => ?_)
              · replace h := h.1 c
                exact x_sub [] rfl (xX2_ofCopy_77 hG h)
              · replace h := h.2 c
                refine x_lload dX2_ofCopy_67 2 rfl ?_
                refine x_callSi [_] ms_X9_number lk_X2_17 rfl ⟨by decide, by decide⟩ rfl (Nat.le_of_ble_eq_true rfl) dX2_ofCopy_69 (ct_X9_number hG h) (fun r14 σ13 h => ?_)
                refine x_iload dX2_ofCopy_72 3 rfl ?_
                refine x_icmp_le dX2_ofCopy_74 81 (by decide) (fun c => ?_) (fun c => ?_)
                · replace h := h.1 c
                  exact x_sub [] rfl (xX2_ofCopy_77 hG h)
                · replace h := h.2 c
                  refine x_iconst (v := (0 : Int32)) dX2_ofCopy_81 rfl ?_
                  exact x_iret rfl dX2_ofCopy_82 ⟨_, rfl, h⟩
            · replace h := h.2 c
              refine x_iconst (v := (5 : Int32)) dX2_ofCopy_57 rfl ?_
              exact x_iret rfl dX2_ofCopy_58 ⟨_, rfl, h⟩
  · replace h := h.2 c
    refine x_lload dX2_ofCopy_8 2 rfl ?_
    refine x_callSi [_] ms_X2_ofWhole lk_X2_7 rfl ⟨by decide, by decide⟩ rfl (Nat.le_of_ble_eq_true rfl) dX2_ofCopy_10 (ct_X2_ofWhole hG h) (fun r16 σ15 h => ?_)
    exact x_iret rfl dX2_ofCopy_13 ⟨_, rfl, h⟩
theorem ct_X2_ofCopy {G : Gx} (hG : gLy G = LyC) {σ : Sg} {l0 : Int64} {l2 : Int64} {l4 : Int64} {l6 : Int32} {Q : Int32 → Sg → Prop} (h : wX2_ofCopy σ l0 l2 l4 l6 Q) : CT G mX2_ofCopy 3 [.long l0, .long l2, .long l4, .int l6] σ (qi Q) := ct_of rfl (Nat.le_of_ble_eq_true rfl) rfl (xX2_ofCopy hG h)
/-! X2_of of -/
def wX2_of_112 (σ : Sg) (l1 : Int64) (l3 : Int64) (Q : Int32 → Sg → Prop) : Prop :=
  wX2_ofWhole σ l1 (fun r2 σ1 =>
  wX2_ofWhole σ1 l3 (fun r4 σ3 =>
  wX2_firstOf σ3 r2 r4 (0 : Int32) (fun r6 σ5 =>
  Q r6 σ5
  )
  )
  )
set_option maxRecDepth 100000 in
set_option maxHeartbeats 4000000 in
theorem xX2_of_112 {G : Gx} (hG : gLy G = LyC) {σ : Sg} {l1 : Int64} {l3 : Int64} {Q : Int32 → Sg → Prop} (h : wX2_of_112 σ l1 l3 Q) : X G mX2_of 4 112 [(1, .long l1), (3, .long l3)] [] σ (qi Q) := by
  unfold wX2_of_112 at h
  refine x_lload_n dX2_of_112 rfl 0 rfl ?_
  refine x_callSi [_] ms_X2_ofWhole lk_X2_7 rfl ⟨by decide, by decide⟩ rfl (Nat.le_of_ble_eq_true rfl) dX2_of_113 (ct_X2_ofWhole hG h) (fun r2 σ1 h => ?_)
  refine x_lload_n dX2_of_116 rfl 1 rfl ?_
  refine x_callSi [_] ms_X2_ofWhole lk_X2_7 rfl ⟨by decide, by decide⟩ rfl (Nat.le_of_ble_eq_true rfl) dX2_of_117 (ct_X2_ofWhole hG h) (fun r4 σ3 h => ?_)
  refine x_iconst (v := (0 : Int32)) dX2_of_120 rfl ?_
  refine x_callSi [_, _, _] ms_X2_firstOf lk_X2_13 rfl ⟨by decide, by decide⟩ rfl (Nat.le_of_ble_eq_true rfl) dX2_of_121 (ct_X2_firstOf hG h) (fun r6 σ5 h => ?_)
  exact x_iret rfl dX2_of_124 ⟨_, rfl, h⟩
def wX2_of_146 (σ : Sg) (s0 : Int32) (s1 : Int32) (s2 : Int32) (Q : Int32 → Sg → Prop) : Prop :=
  wX2_firstOf σ s0 s1 s2 (fun r2 σ1 =>
  Q r2 σ1
  )
set_option maxRecDepth 100000 in
set_option maxHeartbeats 4000000 in
theorem xX2_of_146 {G : Gx} (hG : gLy G = LyC) {σ : Sg} {s0 : Int32} {s1 : Int32} {s2 : Int32} {Q : Int32 → Sg → Prop} (h : wX2_of_146 σ s0 s1 s2 Q) : X G mX2_of 4 146 [] [.int s2, .int s1, .int s0] σ (qi Q) := by
  unfold wX2_of_146 at h
  refine x_callSi [_, _, _] ms_X2_firstOf lk_X2_13 rfl ⟨by decide, by decide⟩ rfl (Nat.le_of_ble_eq_true rfl) dX2_of_146 (ct_X2_firstOf hG h) (fun r2 σ1 h => ?_)
  exact x_iret rfl dX2_of_149 ⟨_, rfl, h⟩
def wX2_of_150 (σ : Sg) (l1 : Int64) (Q : Int32 → Sg → Prop) : Prop :=
  wX2_ofWhole σ l1 (fun r2 σ1 =>
  wX9_number σ1 l1 (fun r4 σ3 =>
  wX2_ofLength σ3 r4 (fun r6 σ5 =>
  wX2_firstOf σ5 r2 r6 (0 : Int32) (fun r8 σ7 =>
  Q r8 σ7
  )
  )
  )
  )
set_option maxRecDepth 100000 in
set_option maxHeartbeats 4000000 in
theorem xX2_of_150 {G : Gx} (hG : gLy G = LyC) {σ : Sg} {l1 : Int64} {Q : Int32 → Sg → Prop} (h : wX2_of_150 σ l1 Q) : X G mX2_of 4 150 [(1, .long l1)] [] σ (qi Q) := by
  unfold wX2_of_150 at h
  refine x_lload_n dX2_of_150 rfl 0 rfl ?_
  refine x_callSi [_] ms_X2_ofWhole lk_X2_7 rfl ⟨by decide, by decide⟩ rfl (Nat.le_of_ble_eq_true rfl) dX2_of_151 (ct_X2_ofWhole hG h) (fun r2 σ1 h => ?_)
  refine x_lload_n dX2_of_154 rfl 0 rfl ?_
  refine x_callSi [_] ms_X9_number lk_X2_17 rfl ⟨by decide, by decide⟩ rfl (Nat.le_of_ble_eq_true rfl) dX2_of_155 (ct_X9_number hG h) (fun r4 σ3 h => ?_)
  refine x_callSi [_] ms_X2_ofLength lk_X2_22 rfl ⟨by decide, by decide⟩ rfl (Nat.le_of_ble_eq_true rfl) dX2_of_158 (ct_X2_ofLength hG h) (fun r6 σ5 h => ?_)
  refine x_iconst (v := (0 : Int32)) dX2_of_161 rfl ?_
  refine x_callSi [_, _, _] ms_X2_firstOf lk_X2_13 rfl ⟨by decide, by decide⟩ rfl (Nat.le_of_ble_eq_true rfl) dX2_of_162 (ct_X2_firstOf hG h) (fun r8 σ7 h => ?_)
  exact x_iret rfl dX2_of_165 ⟨_, rfl, h⟩
def wX2_of_201 (σ : Sg) (l1 : Int64) (Q : Int32 → Sg → Prop) : Prop :=
  wX9_isLink σ l1 (fun r2 σ1 =>
  wX2_ofThing σ1 l1 r2 (fun r4 σ3 =>
  Q r4 σ3
  )
  )
set_option maxRecDepth 100000 in
set_option maxHeartbeats 4000000 in
theorem xX2_of_201 {G : Gx} (hG : gLy G = LyC) {σ : Sg} {l1 : Int64} {Q : Int32 → Sg → Prop} (h : wX2_of_201 σ l1 Q) : X G mX2_of 4 201 [(1, .long l1)] [] σ (qi Q) := by
  unfold wX2_of_201 at h
  refine x_lload_n dX2_of_201 rfl 0 rfl ?_
  refine x_lload_n dX2_of_202 rfl 0 rfl ?_
  refine x_callSi [_] ms_X9_isLink lk_X2_42 rfl ⟨by decide, by decide⟩ rfl (Nat.le_of_ble_eq_true rfl) dX2_of_203 (ct_X9_isLink hG h) (fun r2 σ1 h => ?_)
  refine x_callSi [_, _] ms_X2_ofThing lk_X2_30 rfl ⟨by decide, by decide⟩ rfl (Nat.le_of_ble_eq_true rfl) dX2_of_206 (ct_X2_ofThing hG h) (fun r4 σ3 h => ?_)
  exact x_iret rfl dX2_of_209 ⟨_, rfl, h⟩
def wX2_of_236 (σ : Sg) (l1 : Int64) (Q : Int32 → Sg → Prop) : Prop :=
  wX2_ofWhole σ l1 (fun r2 σ1 =>
  Q r2 σ1
  )
set_option maxRecDepth 100000 in
set_option maxHeartbeats 4000000 in
theorem xX2_of_236 {G : Gx} (hG : gLy G = LyC) {σ : Sg} {l1 : Int64} {Q : Int32 → Sg → Prop} (h : wX2_of_236 σ l1 Q) : X G mX2_of 4 236 [(1, .long l1)] [] σ (qi Q) := by
  unfold wX2_of_236 at h
  refine x_lload_n dX2_of_236 rfl 0 rfl ?_
  refine x_callSi [_] ms_X2_ofWhole lk_X2_7 rfl ⟨by decide, by decide⟩ rfl (Nat.le_of_ble_eq_true rfl) dX2_of_237 (ct_X2_ofWhole hG h) (fun r2 σ1 h => ?_)
  exact x_iret rfl dX2_of_240 ⟨_, rfl, h⟩
def wX2_of_256 (σ : Sg) (s0 : Int64) (s1 : Int32) (Q : Int32 → Sg → Prop) : Prop :=
  wX2_ofThing σ s0 s1 (fun r2 σ1 =>
  Q r2 σ1
  )
set_option maxRecDepth 100000 in
set_option maxHeartbeats 4000000 in
theorem xX2_of_256 {G : Gx} (hG : gLy G = LyC) {σ : Sg} {s0 : Int64} {s1 : Int32} {Q : Int32 → Sg → Prop} (h : wX2_of_256 σ s0 s1 Q) : X G mX2_of 4 256 [] [.int s1, .long s0] σ (qi Q) := by
  unfold wX2_of_256 at h
  refine x_callSi [_, _] ms_X2_ofThing lk_X2_30 rfl ⟨by decide, by decide⟩ rfl (Nat.le_of_ble_eq_true rfl) dX2_of_256 (ct_X2_ofThing hG h) (fun r2 σ1 h => ?_)
  exact x_iret rfl dX2_of_259 ⟨_, rfl, h⟩
def wX2_of (σ : Sg) (l0 : Int32) (l1 : Int64) (l3 : Int64) (l5 : Int64) (l7 : Int32) (l8 : Int32) (Q : Int32 → Sg → Prop) : Prop :=
  (l0 = 5 → (
    wX2_of_112 σ l1 l3 Q
  )) ∧
  (l0 = 6 → (
    wX2_of_112 σ l1 l3 Q
  )) ∧
  (l0 = 7 → (
    wX2_ofWhole σ l1 (fun r2 σ1 =>
    wX2_ofWhole σ1 l3 (fun r4 σ3 =>
    wX9_number σ3 l3 (fun r6 σ5 =>
    (r6 = 0 → (
      wX2_of_146 σ5 r2 r4 (6 : Int32) Q
    )) ∧ (¬ r6 = 0 → (
      wX2_of_146 σ5 r2 r4 (0 : Int32) Q
    ))
    )
    )
    )
  )) ∧
  (l0 = 8 → (
    wX2_of_112 σ l1 l3 Q
  )) ∧
  (l0 = 9 → (
    Q (0 : Int32) σ
  )) ∧
  (l0 = 10 → (
    wX2_of_150 σ l1 Q
  )) ∧
  (l0 = 11 → (
    wX2_of_150 σ l1 Q
  )) ∧
  (l0 = 12 → (
    wX2_of_150 σ l1 Q
  )) ∧
  (l0 = 13 → (
    Q (0 : Int32) σ
  )) ∧
  (l0 = 14 → (
    Q (0 : Int32) σ
  )) ∧
  (l0 = 15 → (
    wX2_ofWhole σ l3 (fun r8 σ7 =>
    wX9_isRow σ7 l1 (fun r10 σ9 =>
    wX2_ofThing σ9 l1 r10 (fun r12 σ11 =>
    wX9_number σ11 l3 (fun r14 σ13 =>
    wX2_ofPlace σ13 r14 l7 (fun r16 σ15 =>
    wX2_firstOf σ15 r8 r12 r16 (fun r18 σ17 =>
    Q r18 σ17
    )
    )
    )
    )
    )
    )
  )) ∧
  (l0 = 16 → (
    wX2_ofWrite σ l1 l3 l5 l7 (fun r20 σ19 =>
    Q r20 σ19
    )
  )) ∧
  (l0 = 17 → (
    wX2_of_201 σ l1 Q
  )) ∧
  (l0 = 18 → (
    wX2_of_201 σ l1 Q
  )) ∧
  (l0 = 19 → (
    wX2_ofCopy σ l1 l3 l5 (if l8 < l7 then l8 else l7) (fun r22 σ21 =>
    Q r22 σ21
    )
  )) ∧
  (l0 = 20 → (
    wX2_ofWhole σ l1 (fun r24 σ23 =>
    wX2_firstOf σ23 r24 (7 : Int32) (0 : Int32) (fun r26 σ25 =>
    Q r26 σ25
    )
    )
  )) ∧
  (l0 = 21 → (
    Q (0 : Int32) σ
  )) ∧
  (l0 = 22 → (
    Q (0 : Int32) σ
  )) ∧
  (l0 = 23 → (
    wX2_of_236 σ l1 Q
  )) ∧
  (l0 = 24 → (
    wX2_of_236 σ l1 Q
  )) ∧
  (l0 = 25 → (
    Q (0 : Int32) σ
  )) ∧
  (l0 = 26 → (
    wX2_of_236 σ l1 Q
  )) ∧
  (l0 = 27 → (
    Q (0 : Int32) σ
  )) ∧
  (l0 = 28 → (
    wX9_sort σ l1 (fun r28 σ27 =>
    (r28 = (7 : Int32) → (
      wX2_of_256 σ27 l1 (1 : Int32) Q
    )) ∧ (¬ r28 = (7 : Int32) → (
      wX2_of_256 σ27 l1 (0 : Int32) Q
    ))
    )
  )) ∧
  (¬ l0 = 5 → ¬ l0 = 6 → ¬ l0 = 7 → ¬ l0 = 8 → ¬ l0 = 9 → ¬ l0 = 10 → ¬ l0 = 11 → ¬ l0 = 12 → ¬ l0 = 13 → ¬ l0 = 14 → ¬ l0 = 15 → ¬ l0 = 16 → ¬ l0 = 17 → ¬ l0 = 18 → ¬ l0 = 19 → ¬ l0 = 20 → ¬ l0 = 21 → ¬ l0 = 22 → ¬ l0 = 23 → ¬ l0 = 24 → ¬ l0 = 25 → ¬ l0 = 26 → ¬ l0 = 27 → ¬ l0 = 28 → (
    Q (0 : Int32) σ
  ))
set_option maxRecDepth 100000 in
set_option maxHeartbeats 4000000 in
theorem xX2_of {G : Gx} (hG : gLy G = LyC) {σ : Sg} {l0 : Int32} {l1 : Int64} {l3 : Int64} {l5 : Int64} {l7 : Int32} {l8 : Int32} {Q : Int32 → Sg → Prop} (h : wX2_of σ l0 l1 l3 l5 l7 l8 Q) : X G mX2_of 4 0 [(0, .int l0), (1, .long l1), (3, .long l3), (5, .long l5), (7, .int l7), (8, .int l8)] [] σ (qi Q) := by
  unfold wX2_of at h
  refine x_iload_n dX2_of_0 rfl 0 rfl ?_
  refine x_case (5 : Int32) (fun c => ?_) (fun c0 => ?_)
  · refine x_tblIn (5 : Int32) 112 c dX2_of_1 (by decide) (by decide) rfl (by decide) ?_
    replace h := h.1 c
    exact x_sub [1, 2] rfl (xX2_of_112 hG h)
  replace h := h.2
  refine x_case (6 : Int32) (fun c => ?_) (fun c1 => ?_)
  · refine x_tblIn (6 : Int32) 112 c dX2_of_1 (by decide) (by decide) rfl (by decide) ?_
    replace h := h.1 c
    exact x_sub [1, 2] rfl (xX2_of_112 hG h)
  replace h := h.2
  refine x_case (7 : Int32) (fun c => ?_) (fun c2 => ?_)
  · refine x_tblIn (7 : Int32) 125 c dX2_of_1 (by decide) (by decide) rfl (by decide) ?_
    replace h := h.1 c
    refine x_lload_n dX2_of_125 rfl 1 rfl ?_
    refine x_callSi [_] ms_X2_ofWhole lk_X2_7 rfl ⟨by decide, by decide⟩ rfl (Nat.le_of_ble_eq_true rfl) dX2_of_126 (ct_X2_ofWhole hG h) (fun r2 σ1 h => ?_)
    refine x_lload_n dX2_of_129 rfl 2 rfl ?_
    refine x_callSi [_] ms_X2_ofWhole lk_X2_7 rfl ⟨by decide, by decide⟩ rfl (Nat.le_of_ble_eq_true rfl) dX2_of_130 (ct_X2_ofWhole hG h) (fun r4 σ3 h => ?_)
    refine x_lload_n dX2_of_133 rfl 2 rfl ?_
    refine x_callSi [_] ms_X9_number lk_X2_17 rfl ⟨by decide, by decide⟩ rfl (Nat.le_of_ble_eq_true rfl) dX2_of_134 (ct_X9_number hG h) (fun r6 σ5 h => ?_)
    refine x_if_ne dX2_of_137 145 (by decide) (fun c => ?_) (fun c => ?_)
    · replace h := h.1 c
      refine x_bipush (v := (6 : Int32)) dX2_of_140 rfl ?_
      refine x_goto dX2_of_142 146 (by decide) ?_
      exact x_sub [] rfl (xX2_of_146 hG h)
    · replace h := h.2 c
      refine x_iconst (v := (0 : Int32)) dX2_of_145 rfl ?_
      exact x_sub [] rfl (xX2_of_146 hG h)
  replace h := h.2
  refine x_case (8 : Int32) (fun c => ?_) (fun c3 => ?_)
  · refine x_tblIn (8 : Int32) 112 c dX2_of_1 (by decide) (by decide) rfl (by decide) ?_
    replace h := h.1 c
    exact x_sub [1, 2] rfl (xX2_of_112 hG h)
  replace h := h.2
  refine x_case (9 : Int32) (fun c => ?_) (fun c4 => ?_)
  · refine x_tblIn (9 : Int32) 260 c dX2_of_1 (by decide) (by decide) rfl (by decide) ?_
    replace h := h.1 c
    refine x_iconst (v := (0 : Int32)) dX2_of_260 rfl ?_
    exact x_iret rfl dX2_of_261 ⟨_, rfl, h⟩
  replace h := h.2
  refine x_case (10 : Int32) (fun c => ?_) (fun c5 => ?_)
  · refine x_tblIn (10 : Int32) 150 c dX2_of_1 (by decide) (by decide) rfl (by decide) ?_
    replace h := h.1 c
    exact x_sub [1] rfl (xX2_of_150 hG h)
  replace h := h.2
  refine x_case (11 : Int32) (fun c => ?_) (fun c6 => ?_)
  · refine x_tblIn (11 : Int32) 150 c dX2_of_1 (by decide) (by decide) rfl (by decide) ?_
    replace h := h.1 c
    exact x_sub [1] rfl (xX2_of_150 hG h)
  replace h := h.2
  refine x_case (12 : Int32) (fun c => ?_) (fun c7 => ?_)
  · refine x_tblIn (12 : Int32) 150 c dX2_of_1 (by decide) (by decide) rfl (by decide) ?_
    replace h := h.1 c
    exact x_sub [1] rfl (xX2_of_150 hG h)
  replace h := h.2
  refine x_case (13 : Int32) (fun c => ?_) (fun c8 => ?_)
  · refine x_tblIn (13 : Int32) 260 c dX2_of_1 (by decide) (by decide) rfl (by decide) ?_
    replace h := h.1 c
    refine x_iconst (v := (0 : Int32)) dX2_of_260 rfl ?_
    exact x_iret rfl dX2_of_261 ⟨_, rfl, h⟩
  replace h := h.2
  refine x_case (14 : Int32) (fun c => ?_) (fun c9 => ?_)
  · refine x_tblIn (14 : Int32) 260 c dX2_of_1 (by decide) (by decide) rfl (by decide) ?_
    replace h := h.1 c
    refine x_iconst (v := (0 : Int32)) dX2_of_260 rfl ?_
    exact x_iret rfl dX2_of_261 ⟨_, rfl, h⟩
  replace h := h.2
  refine x_case (15 : Int32) (fun c => ?_) (fun c10 => ?_)
  · refine x_tblIn (15 : Int32) 166 c dX2_of_1 (by decide) (by decide) rfl (by decide) ?_
    replace h := h.1 c
    refine x_lload_n dX2_of_166 rfl 2 rfl ?_
    refine x_callSi [_] ms_X2_ofWhole lk_X2_7 rfl ⟨by decide, by decide⟩ rfl (Nat.le_of_ble_eq_true rfl) dX2_of_167 (ct_X2_ofWhole hG h) (fun r8 σ7 h => ?_)
    refine x_lload_n dX2_of_170 rfl 1 rfl ?_
    refine x_lload_n dX2_of_171 rfl 1 rfl ?_
    refine x_callSi [_] ms_X9_isRow lk_X2_26 rfl ⟨by decide, by decide⟩ rfl (Nat.le_of_ble_eq_true rfl) dX2_of_172 (ct_X9_isRow hG h) (fun r10 σ9 h => ?_)
    refine x_callSi [_, _] ms_X2_ofThing lk_X2_30 rfl ⟨by decide, by decide⟩ rfl (Nat.le_of_ble_eq_true rfl) dX2_of_175 (ct_X2_ofThing hG h) (fun r12 σ11 h => ?_)
    refine x_lload_n dX2_of_178 rfl 2 rfl ?_
    refine x_callSi [_] ms_X9_number lk_X2_17 rfl ⟨by decide, by decide⟩ rfl (Nat.le_of_ble_eq_true rfl) dX2_of_179 (ct_X9_number hG h) (fun r14 σ13 h => ?_)
    refine x_iload dX2_of_182 4 rfl ?_
    refine x_callSi [_, _] ms_X2_ofPlace lk_X2_34 rfl ⟨by decide, by decide⟩ rfl (Nat.le_of_ble_eq_true rfl) dX2_of_184 (ct_X2_ofPlace hG h) (fun r16 σ15 h => ?_)
    refine x_callSi [_, _, _] ms_X2_firstOf lk_X2_13 rfl ⟨by decide, by decide⟩ rfl (Nat.le_of_ble_eq_true rfl) dX2_of_187 (ct_X2_firstOf hG h) (fun r18 σ17 h => ?_)
    exact x_iret rfl dX2_of_190 ⟨_, rfl, h⟩
  replace h := h.2
  refine x_case (16 : Int32) (fun c => ?_) (fun c11 => ?_)
  · refine x_tblIn (16 : Int32) 191 c dX2_of_1 (by decide) (by decide) rfl (by decide) ?_
    replace h := h.1 c
    refine x_lload_n dX2_of_191 rfl 1 rfl ?_
    refine x_lload_n dX2_of_192 rfl 2 rfl ?_
    refine x_lload dX2_of_193 3 rfl ?_
    refine x_iload dX2_of_195 4 rfl ?_
    refine x_callSi [_, _, _, _] ms_X2_ofWrite lk_X2_38 rfl ⟨by decide, by decide⟩ rfl (Nat.le_of_ble_eq_true rfl) dX2_of_197 (ct_X2_ofWrite hG h) (fun r20 σ19 h => ?_)
    exact x_iret rfl dX2_of_200 ⟨_, rfl, h⟩
  replace h := h.2
  refine x_case (17 : Int32) (fun c => ?_) (fun c12 => ?_)
  · refine x_tblIn (17 : Int32) 201 c dX2_of_1 (by decide) (by decide) rfl (by decide) ?_
    replace h := h.1 c
    exact x_sub [1] rfl (xX2_of_201 hG h)
  replace h := h.2
  refine x_case (18 : Int32) (fun c => ?_) (fun c13 => ?_)
  · refine x_tblIn (18 : Int32) 201 c dX2_of_1 (by decide) (by decide) rfl (by decide) ?_
    replace h := h.1 c
    exact x_sub [1] rfl (xX2_of_201 hG h)
  replace h := h.2
  refine x_case (19 : Int32) (fun c => ?_) (fun c14 => ?_)
  · refine x_tblIn (19 : Int32) 210 c dX2_of_1 (by decide) (by decide) rfl (by decide) ?_
    replace h := h.1 c
    refine x_lload_n dX2_of_210 rfl 1 rfl ?_
    refine x_lload_n dX2_of_211 rfl 2 rfl ?_
    refine x_lload dX2_of_212 3 rfl ?_
    refine x_iload dX2_of_214 4 rfl ?_
    refine x_iload dX2_of_216 5 rfl ?_
    refine x_mmin lk_X2_45 mm_1 mm_2 mm_3 (by decide) (Nat.le_of_ble_eq_true rfl) dX2_of_218 ?_
    refine x_callSi [_, _, _, _] ms_X2_ofCopy lk_X2_50 rfl ⟨by decide, by decide⟩ rfl (Nat.le_of_ble_eq_true rfl) dX2_of_221 (ct_X2_ofCopy hG h) (fun r22 σ21 h => ?_)
    exact x_iret rfl dX2_of_224 ⟨_, rfl, h⟩
  replace h := h.2
  refine x_case (20 : Int32) (fun c => ?_) (fun c15 => ?_)
  · refine x_tblIn (20 : Int32) 225 c dX2_of_1 (by decide) (by decide) rfl (by decide) ?_
    replace h := h.1 c
    refine x_lload_n dX2_of_225 rfl 1 rfl ?_
    refine x_callSi [_] ms_X2_ofWhole lk_X2_7 rfl ⟨by decide, by decide⟩ rfl (Nat.le_of_ble_eq_true rfl) dX2_of_226 (ct_X2_ofWhole hG h) (fun r24 σ23 h => ?_)
    refine x_bipush (v := (7 : Int32)) dX2_of_229 rfl ?_
    refine x_iconst (v := (0 : Int32)) dX2_of_231 rfl ?_
    refine x_callSi [_, _, _] ms_X2_firstOf lk_X2_13 rfl ⟨by decide, by decide⟩ rfl (Nat.le_of_ble_eq_true rfl) dX2_of_232 (ct_X2_firstOf hG h) (fun r26 σ25 h => ?_)
    exact x_iret rfl dX2_of_235 ⟨_, rfl, h⟩
  replace h := h.2
  refine x_case (21 : Int32) (fun c => ?_) (fun c16 => ?_)
  · refine x_tblIn (21 : Int32) 260 c dX2_of_1 (by decide) (by decide) rfl (by decide) ?_
    replace h := h.1 c
    refine x_iconst (v := (0 : Int32)) dX2_of_260 rfl ?_
    exact x_iret rfl dX2_of_261 ⟨_, rfl, h⟩
  replace h := h.2
  refine x_case (22 : Int32) (fun c => ?_) (fun c17 => ?_)
  · refine x_tblIn (22 : Int32) 260 c dX2_of_1 (by decide) (by decide) rfl (by decide) ?_
    replace h := h.1 c
    refine x_iconst (v := (0 : Int32)) dX2_of_260 rfl ?_
    exact x_iret rfl dX2_of_261 ⟨_, rfl, h⟩
  replace h := h.2
  refine x_case (23 : Int32) (fun c => ?_) (fun c18 => ?_)
  · refine x_tblIn (23 : Int32) 236 c dX2_of_1 (by decide) (by decide) rfl (by decide) ?_
    replace h := h.1 c
    exact x_sub [1] rfl (xX2_of_236 hG h)
  replace h := h.2
  refine x_case (24 : Int32) (fun c => ?_) (fun c19 => ?_)
  · refine x_tblIn (24 : Int32) 236 c dX2_of_1 (by decide) (by decide) rfl (by decide) ?_
    replace h := h.1 c
    exact x_sub [1] rfl (xX2_of_236 hG h)
  replace h := h.2
  refine x_case (25 : Int32) (fun c => ?_) (fun c20 => ?_)
  · refine x_tblIn (25 : Int32) 260 c dX2_of_1 (by decide) (by decide) rfl (by decide) ?_
    replace h := h.1 c
    refine x_iconst (v := (0 : Int32)) dX2_of_260 rfl ?_
    exact x_iret rfl dX2_of_261 ⟨_, rfl, h⟩
  replace h := h.2
  refine x_case (26 : Int32) (fun c => ?_) (fun c21 => ?_)
  · refine x_tblIn (26 : Int32) 236 c dX2_of_1 (by decide) (by decide) rfl (by decide) ?_
    replace h := h.1 c
    exact x_sub [1] rfl (xX2_of_236 hG h)
  replace h := h.2
  refine x_case (27 : Int32) (fun c => ?_) (fun c22 => ?_)
  · refine x_tblIn (27 : Int32) 260 c dX2_of_1 (by decide) (by decide) rfl (by decide) ?_
    replace h := h.1 c
    refine x_iconst (v := (0 : Int32)) dX2_of_260 rfl ?_
    exact x_iret rfl dX2_of_261 ⟨_, rfl, h⟩
  replace h := h.2
  refine x_case (28 : Int32) (fun c => ?_) (fun c23 => ?_)
  · refine x_tblIn (28 : Int32) 241 c dX2_of_1 (by decide) (by decide) rfl (by decide) ?_
    replace h := h.1 c
    refine x_lload_n dX2_of_241 rfl 1 rfl ?_
    refine x_lload_n dX2_of_242 rfl 1 rfl ?_
    refine x_callSi [_] ms_X9_sort lk_X2_53 rfl ⟨by decide, by decide⟩ rfl (Nat.le_of_ble_eq_true rfl) dX2_of_243 (ct_X9_sort hG h) (fun r28 σ27 h => ?_)
    refine x_bipush (v := (7 : Int32)) dX2_of_246 rfl ?_
    refine x_icmp_ne dX2_of_248 255 (by decide) (fun c => ?_) (fun c => ?_)
    · replace h := h.1 c
      refine x_iconst (v := (1 : Int32)) dX2_of_251 rfl ?_
      refine x_goto dX2_of_252 256 (by decide) ?_
      exact x_sub [] rfl (xX2_of_256 hG h)
    · replace h := h.2 c
      refine x_iconst (v := (0 : Int32)) dX2_of_255 rfl ?_
      exact x_sub [] rfl (xX2_of_256 hG h)
  replace h := h.2
  replace h := h c0 c1 c2 c3 c4 c5 c6 c7 c8 c9 c10 c11 c12 c13 c14 c15 c16 c17 c18 c19 c20 c21 c22 c23
  refine x_tblOut [5, 6, 7, 8, 9, 10, 11, 12, 13, 14, 15, 16, 17, 18, 19, 20, 21, 22, 23, 24, 25, 26, 27, 28] 24 260 (by decide) (by decide) (List.forall_mem_cons.mpr ⟨c0, List.forall_mem_cons.mpr ⟨c1, List.forall_mem_cons.mpr ⟨c2, List.forall_mem_cons.mpr ⟨c3, List.forall_mem_cons.mpr ⟨c4, List.forall_mem_cons.mpr ⟨c5, List.forall_mem_cons.mpr ⟨c6, List.forall_mem_cons.mpr ⟨c7, List.forall_mem_cons.mpr ⟨c8, List.forall_mem_cons.mpr ⟨c9, List.forall_mem_cons.mpr ⟨c10, List.forall_mem_cons.mpr ⟨c11, List.forall_mem_cons.mpr ⟨c12, List.forall_mem_cons.mpr ⟨c13, List.forall_mem_cons.mpr ⟨c14, List.forall_mem_cons.mpr ⟨c15, List.forall_mem_cons.mpr ⟨c16, List.forall_mem_cons.mpr ⟨c17, List.forall_mem_cons.mpr ⟨c18, List.forall_mem_cons.mpr ⟨c19, List.forall_mem_cons.mpr ⟨c20, List.forall_mem_cons.mpr ⟨c21, List.forall_mem_cons.mpr ⟨c22, List.forall_mem_cons.mpr ⟨c23, fun _ h => absurd h List.not_mem_nil⟩⟩⟩⟩⟩⟩⟩⟩⟩⟩⟩⟩⟩⟩⟩⟩⟩⟩⟩⟩⟩⟩⟩⟩) dX2_of_1 (by decide) ?_
  refine x_iconst (v := (0 : Int32)) dX2_of_260 rfl ?_
  exact x_iret rfl dX2_of_261 ⟨_, rfl, h⟩
theorem ct_X2_of {G : Gx} (hG : gLy G = LyC) {σ : Sg} {l0 : Int32} {l1 : Int64} {l3 : Int64} {l5 : Int64} {l7 : Int32} {l8 : Int32} {Q : Int32 → Sg → Prop} (h : wX2_of σ l0 l1 l3 l5 l7 l8 Q) : CT G mX2_of 4 [.int l0, .long l1, .long l3, .long l5, .int l7, .int l8] σ (qi Q) := ct_of rfl (Nat.le_of_ble_eq_true rfl) rfl (xX2_of hG h)
