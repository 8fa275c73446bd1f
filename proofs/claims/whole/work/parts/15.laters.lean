/-! X5_restart restart -/
def wX5_restart (σ : Sg) (Q : Sg → Prop) : Prop :=
  let σ1 := wI σ 14 6 (0 : Int32)
  Q σ1
set_option maxRecDepth 100000 in
set_option maxHeartbeats 4000000 in
theorem xX5_restart {G : Gx} (hG : gLy G = LyC) {σ : Sg} {Q : Sg → Prop} (h : wX5_restart σ Q) : X G mX5_restart 1 0 [(0, .ref (gad G 14))] [] σ (qv Q) := by
  unfold wX5_restart at h
  refine x_aload_n dX5_restart_0 rfl 0 rfl ?_
  refine x_iconst (v := (0 : Int32)) dX5_restart_1 rfl ?_
  refine x_putI hG fp_X5_31 dX5_restart_2 ?_
  exact x_vret rfl dX5_restart_5 ⟨rfl, h⟩
theorem ct_X5_restart {G : Gx} (hG : gLy G = LyC) {σ : Sg} {Q : Sg → Prop} (h : wX5_restart σ Q) : CT G mX5_restart 1 [.ref (gad G 14)] σ (qv Q) := ct_of rfl (Nat.le_of_ble_eq_true rfl) rfl (xX5_restart hG h)
/-! X5_add add -/
def wX5_add (σ : Sg) (l1 : Int32) (l2 : Int32) (Q : Int64 → Sg → Prop) : Prop :=
  ((sI σ 14 6) < (200 : Int32) → (
    let σ1 := wI σ 14 6 ((sI σ 14 6) + (1 : Int32))
    vp_in (sI σ 14 6) 200 ∧
    let σ2 := wI σ1 15 ((sI σ 14 6)).toNatClampNeg l1
    vp_in (sI σ 14 6) 200 ∧
    let σ3 := wI σ2 16 ((sI σ 14 6)).toNatClampNeg l2
    vp_in (sI σ 14 6) 200 ∧
    let σ4 := wI σ3 17 ((sI σ 14 6)).toNatClampNeg (0 : Int32)
    wX9_of σ4 (7 : Int32) (sI σ 14 6) (fun r6 σ5 =>
    Q r6 σ5
    )
  )) ∧ (¬ (sI σ 14 6) < (200 : Int32) → (
    Q (4294967296 : Int64) σ
  ))
set_option maxRecDepth 100000 in
set_option maxHeartbeats 4000000 in
theorem xX5_add {G : Gx} (hG : gLy G = LyC) {σ : Sg} {l1 : Int32} {l2 : Int32} {Q : Int64 → Sg → Prop} (h : wX5_add σ l1 l2 Q) : X G mX5_add 2 0 [(0, .ref (gad G 14)), (1, .int l1), (2, .int l2)] [] σ (ql Q) := by
  unfold wX5_add at h
  refine x_aload_n dX5_add_0 rfl 0 rfl ?_
  refine x_getIv hG fg_X5_31 dX5_add_1 rfl ?_
  refine x_sipush (v := (200 : Int32)) dX5_add_4 rfl ?_
  refine x_icmp_lt dX5_add_7 14 (by decide) (fun c => ?_) (fun c => ?_)
  · replace h := h.1 c
    refine x_aload_n dX5_add_14 rfl 0 rfl ?_
    refine x_getIv hG fg_X5_31 dX5_add_15 rfl ?_
    refine x_istore_n dX5_add_18 rfl (Nat.le_of_ble_eq_true rfl) (lv' := [(3, _), (0, _), (1, _), (2, _)]) rfl ?_
    refine x_aload_n dX5_add_19 rfl 1 rfl ?_
    refine x_dup dX5_add_20 rfl ?_
    refine x_getIv hG fg_X5_31 dX5_add_21 rfl ?_
    refine x_iconst (v := (1 : Int32)) dX5_add_24 rfl ?_
    refine x_iadd dX5_add_25 ?_
    refine x_putI hG fp_X5_31 dX5_add_26 ?_
    refine x_aload_n dX5_add_29 rfl 1 rfl ?_
    refine x_getR (q := 15) hG fg_X5_9 dX5_add_30 ?_
    refine x_iload_n dX5_add_33 rfl 0 rfl ?_
    refine x_iload_n dX5_add_34 rfl 2 rfl ?_
    refine x_iast hG rfl dX5_add_35 h.1 ?_
    replace h := h.2
    refine x_aload_n dX5_add_36 rfl 1 rfl ?_
    refine x_getR (q := 16) hG fg_X5_15 dX5_add_37 ?_
    refine x_iload_n dX5_add_40 rfl 0 rfl ?_
    refine x_iload_n dX5_add_41 rfl 3 rfl ?_
    refine x_iast hG rfl dX5_add_42 h.1 ?_
    replace h := h.2
    refine x_aload_n dX5_add_43 rfl 1 rfl ?_
    refine x_getR (q := 17) hG fg_X5_18 dX5_add_44 ?_
    refine x_iload_n dX5_add_47 rfl 0 rfl ?_
    refine x_iconst (v := (0 : Int32)) dX5_add_48 rfl ?_
    refine x_iast hG rfl dX5_add_49 h.1 ?_
    replace h := h.2
    refine x_bipush (v := (7 : Int32)) dX5_add_50 rfl ?_
    refine x_iload_n dX5_add_52 rfl 0 rfl ?_
    refine x_callSl [_, _] ms_X9_of lk_X5_39 rfl ⟨by decide, by decide⟩ rfl (Nat.le_of_ble_eq_true rfl) dX5_add_53 (ct_X9_of hG h) (fun r6 σ5 h => ?_)
    exact x_lret rfl dX5_add_56 ⟨_, rfl, h⟩
  · replace h := h.2 c
    refine x_ldc2 dX5_add_10 cl_X5_37 ?_
    exact x_lret rfl dX5_add_13 ⟨_, rfl, h⟩
theorem ct_X5_add {G : Gx} (hG : gLy G = LyC) {σ : Sg} {l1 : Int32} {l2 : Int32} {Q : Int64 → Sg → Prop} (h : wX5_add σ l1 l2 Q) : CT G mX5_add 2 [.ref (gad G 14), .int l1, .int l2] σ (ql Q) := ct_of rfl (Nat.le_of_ble_eq_true rfl) rfl (xX5_add hG h)
/-! X5_has has -/
def wX5_has (σ : Sg) (l1 : Int32) (Q : Int32 → Sg → Prop) : Prop :=
  (l1 < 0 → (
    Q (0 : Int32) σ
  )) ∧ (¬ l1 < 0 → (
    (l1 < (sI σ 14 6) → (
      Q (1 : Int32) σ
    )) ∧ (¬ l1 < (sI σ 14 6) → (
      Q (0 : Int32) σ
    ))
  ))
set_option maxRecDepth 100000 in
set_option maxHeartbeats 4000000 in
theorem xX5_has {G : Gx} (hG : gLy G = LyC) {σ : Sg} {l1 : Int32} {Q : Int32 → Sg → Prop} (h : wX5_has σ l1 Q) : X G mX5_has 1 0 [(0, .ref (gad G 14)), (1, .int l1)] [] σ (qi Q) := by
  unfold wX5_has at h
  refine x_iload_n dX5_has_0 rfl 1 rfl ?_
  refine x_if_lt dX5_has_1 16 (by decide) (fun c => ?_) (fun c => ?_)
  · replace h := h.1 c
    refine x_iconst (v := (0 : Int32)) dX5_has_16 rfl ?_
    exact x_zret rfl bz_0 dX5_has_17 ⟨_, rfl, h⟩
  · replace h := h.2 c
    refine x_iload_n dX5_has_4 rfl 1 rfl ?_
    refine x_aload_n dX5_has_5 rfl 0 rfl ?_
    refine x_getIv hG fg_X5_31 dX5_has_6 rfl ?_
    refine x_icmp_ge dX5_has_9 16 (by decide) (fun c => ?_) (fun c => ?_)
    · replace h := h.1 c
      refine x_iconst (v := (1 : Int32)) dX5_has_12 rfl ?_
      refine x_goto dX5_has_13 17 (by decide) ?_
      exact x_zret rfl bz_1 dX5_has_17 ⟨_, rfl, h⟩
    · replace h := h.2 c
      refine x_iconst (v := (0 : Int32)) dX5_has_16 rfl ?_
      exact x_zret rfl bz_0 dX5_has_17 ⟨_, rfl, h⟩
theorem ct_X5_has {G : Gx} (hG : gLy G = LyC) {σ : Sg} {l1 : Int32} {Q : Int32 → Sg → Prop} (h : wX5_has σ l1 Q) : CT G mX5_has 1 [.ref (gad G 14), .int l1] σ (qi Q) := ct_of rfl (Nat.le_of_ble_eq_true rfl) rfl (xX5_has hG h)
/-! X5_actOf actOf -/
def wX5_actOf (σ : Sg) (l1 : Int32) (Q : Int32 → Sg → Prop) : Prop :=
  wX5_has σ l1 (fun r2 σ1 =>
  (r2 = 0 → (
    Q (-1 : Int32) σ1
  )) ∧ (¬ r2 = 0 → (
    vp_in l1 200 ∧
    Q (sI σ1 15 (l1).toNatClampNeg) σ1
  ))
  )
set_option maxRecDepth 100000 in
set_option maxHeartbeats 4000000 in
theorem xX5_actOf {G : Gx} (hG : gLy G = LyC) {σ : Sg} {l1 : Int32} {Q : Int32 → Sg → Prop} (h : wX5_actOf σ l1 Q) : X G mX5_actOf 2 0 [(0, .ref (gad G 14)), (1, .int l1)] [] σ (qi Q) := by
  unfold wX5_actOf at h
  refine x_aload_n dX5_actOf_0 rfl 0 rfl ?_
  refine x_iload_n dX5_actOf_1 rfl 1 rfl ?_
  refine x_callVi [_] hG mv_X5_has lk_X5_43 rfl rfl rfl ⟨by decide, by decide⟩ rfl (Nat.le_of_ble_eq_true rfl) dX5_actOf_2 (ct_X5_has hG h) (fun r2 σ1 h => ?_)
  refine x_if_eq dX5_actOf_5 17 (by decide) (fun c => ?_) (fun c => ?_)
  · replace h := h.1 c
    refine x_iconst (v := (-1 : Int32)) dX5_actOf_17 rfl ?_
    exact x_iret rfl dX5_actOf_18 ⟨_, rfl, h⟩
  · replace h := h.2 c
    refine x_aload_n dX5_actOf_8 rfl 0 rfl ?_
    refine x_getR (q := 15) hG fg_X5_9 dX5_actOf_9 ?_
    refine x_iload_n dX5_actOf_12 rfl 1 rfl ?_
    refine x_ialdv hG rfl dX5_actOf_13 h.1 rfl ?_
    replace h := h.2
    refine x_goto dX5_actOf_14 18 (by decide) ?_
    exact x_iret rfl dX5_actOf_18 ⟨_, rfl, h⟩
theorem ct_X5_actOf {G : Gx} (hG : gLy G = LyC) {σ : Sg} {l1 : Int32} {Q : Int32 → Sg → Prop} (h : wX5_actOf σ l1 Q) : CT G mX5_actOf 2 [.ref (gad G 14), .int l1] σ (qi Q) := ct_of rfl (Nat.le_of_ble_eq_true rfl) rfl (xX5_actOf hG h)
/-! X5_frameOf frameOf -/
def wX5_frameOf (σ : Sg) (l1 : Int32) (Q : Int32 → Sg → Prop) : Prop :=
  wX5_has σ l1 (fun r2 σ1 =>
  (r2 = 0 → (
    Q (-1 : Int32) σ1
  )) ∧ (¬ r2 = 0 → (
    vp_in l1 200 ∧
    Q (sI σ1 16 (l1).toNatClampNeg) σ1
  ))
  )
set_option maxRecDepth 100000 in
set_option maxHeartbeats 4000000 in
theorem xX5_frameOf {G : Gx} (hG : gLy G = LyC) {σ : Sg} {l1 : Int32} {Q : Int32 → Sg → Prop} (h : wX5_frameOf σ l1 Q) : X G mX5_frameOf 2 0 [(0, .ref (gad G 14)), (1, .int l1)] [] σ (qi Q) := by
  unfold wX5_frameOf at h
  refine x_aload_n dX5_frameOf_0 rfl 0 rfl ?_
  refine x_iload_n dX5_frameOf_1 rfl 1 rfl ?_
  refine x_callVi [_] hG mv_X5_has lk_X5_43 rfl rfl rfl ⟨by decide, by decide⟩ rfl (Nat.le_of_ble_eq_true rfl) dX5_frameOf_2 (ct_X5_has hG h) (fun r2 σ1 h => ?_)
  refine x_if_eq dX5_frameOf_5 17 (by decide) (fun c => ?_) (fun c => ?_)
  · replace h := h.1 c
    refine x_iconst (v := (-1 : Int32)) dX5_frameOf_17 rfl ?_
    exact x_iret rfl dX5_frameOf_18 ⟨_, rfl, h⟩
  · replace h := h.2 c
    refine x_aload_n dX5_frameOf_8 rfl 0 rfl ?_
    refine x_getR (q := 16) hG fg_X5_15 dX5_frameOf_9 ?_
    refine x_iload_n dX5_frameOf_12 rfl 1 rfl ?_
    refine x_ialdv hG rfl dX5_frameOf_13 h.1 rfl ?_
    replace h := h.2
    refine x_goto dX5_frameOf_14 18 (by decide) ?_
    exact x_iret rfl dX5_frameOf_18 ⟨_, rfl, h⟩
theorem ct_X5_frameOf {G : Gx} (hG : gLy G = LyC) {σ : Sg} {l1 : Int32} {Q : Int32 → Sg → Prop} (h : wX5_frameOf σ l1 Q) : CT G mX5_frameOf 2 [.ref (gad G 14), .int l1] σ (qi Q) := ct_of rfl (Nat.le_of_ble_eq_true rfl) rfl (xX5_frameOf hG h)
/-! X5_stateOf stateOf -/
def wX5_stateOf (σ : Sg) (l1 : Int32) (Q : Int32 → Sg → Prop) : Prop :=
  wX5_has σ l1 (fun r2 σ1 =>
  (r2 = 0 → (
    Q (0 : Int32) σ1
  )) ∧ (¬ r2 = 0 → (
    vp_in l1 200 ∧
    Q (sI σ1 17 (l1).toNatClampNeg) σ1
  ))
  )
set_option maxRecDepth 100000 in
set_option maxHeartbeats 4000000 in
theorem xX5_stateOf {G : Gx} (hG : gLy G = LyC) {σ : Sg} {l1 : Int32} {Q : Int32 → Sg → Prop} (h : wX5_stateOf σ l1 Q) : X G mX5_stateOf 2 0 [(0, .ref (gad G 14)), (1, .int l1)] [] σ (qi Q) := by
  unfold wX5_stateOf at h
  refine x_aload_n dX5_stateOf_0 rfl 0 rfl ?_
  refine x_iload_n dX5_stateOf_1 rfl 1 rfl ?_
  refine x_callVi [_] hG mv_X5_has lk_X5_43 rfl rfl rfl ⟨by decide, by decide⟩ rfl (Nat.le_of_ble_eq_true rfl) dX5_stateOf_2 (ct_X5_has hG h) (fun r2 σ1 h => ?_)
  refine x_if_eq dX5_stateOf_5 17 (by decide) (fun c => ?_) (fun c => ?_)
  · replace h := h.1 c
    refine x_iconst (v := (0 : Int32)) dX5_stateOf_17 rfl ?_
    exact x_iret rfl dX5_stateOf_18 ⟨_, rfl, h⟩
  · replace h := h.2 c
    refine x_aload_n dX5_stateOf_8 rfl 0 rfl ?_
    refine x_getR (q := 17) hG fg_X5_18 dX5_stateOf_9 ?_
    refine x_iload_n dX5_stateOf_12 rfl 1 rfl ?_
    refine x_ialdv hG rfl dX5_stateOf_13 h.1 rfl ?_
    replace h := h.2
    refine x_goto dX5_stateOf_14 18 (by decide) ?_
    exact x_iret rfl dX5_stateOf_18 ⟨_, rfl, h⟩
theorem ct_X5_stateOf {G : Gx} (hG : gLy G = LyC) {σ : Sg} {l1 : Int32} {Q : Int32 → Sg → Prop} (h : wX5_stateOf σ l1 Q) : CT G mX5_stateOf 2 [.ref (gad G 14), .int l1] σ (qi Q) := ct_of rfl (Nat.le_of_ble_eq_true rfl) rfl (xX5_stateOf hG h)
/-! X5_failureOf failureOf -/
def wX5_failureOf (σ : Sg) (l1 : Int32) (Q : Int32 → Sg → Prop) : Prop :=
  wX5_has σ l1 (fun r2 σ1 =>
  (r2 = 0 → (
    Q (0 : Int32) σ1
  )) ∧ (¬ r2 = 0 → (
    vp_in l1 200 ∧
    Q (sI σ1 18 (l1).toNatClampNeg) σ1
  ))
  )
set_option maxRecDepth 100000 in
set_option maxHeartbeats 4000000 in
theorem xX5_failureOf {G : Gx} (hG : gLy G = LyC) {σ : Sg} {l1 : Int32} {Q : Int32 → Sg → Prop} (h : wX5_failureOf σ l1 Q) : X G mX5_failureOf 2 0 [(0, .ref (gad G 14)), (1, .int l1)] [] σ (qi Q) := by
  unfold wX5_failureOf at h
  refine x_aload_n dX5_failureOf_0 rfl 0 rfl ?_
  refine x_iload_n dX5_failureOf_1 rfl 1 rfl ?_
  refine x_callVi [_] hG mv_X5_has lk_X5_43 rfl rfl rfl ⟨by decide, by decide⟩ rfl (Nat.le_of_ble_eq_true rfl) dX5_failureOf_2 (ct_X5_has hG h) (fun r2 σ1 h => ?_)
  refine x_if_eq dX5_failureOf_5 17 (by decide) (fun c => ?_) (fun c => ?_)
  · replace h := h.1 c
    refine x_iconst (v := (0 : Int32)) dX5_failureOf_17 rfl ?_
    exact x_iret rfl dX5_failureOf_18 ⟨_, rfl, h⟩
  · replace h := h.2 c
    refine x_aload_n dX5_failureOf_8 rfl 0 rfl ?_
    refine x_getR (q := 18) hG fg_X5_21 dX5_failureOf_9 ?_
    refine x_iload_n dX5_failureOf_12 rfl 1 rfl ?_
    refine x_ialdv hG rfl dX5_failureOf_13 h.1 rfl ?_
    replace h := h.2
    refine x_goto dX5_failureOf_14 18 (by decide) ?_
    exact x_iret rfl dX5_failureOf_18 ⟨_, rfl, h⟩
theorem ct_X5_failureOf {G : Gx} (hG : gLy G = LyC) {σ : Sg} {l1 : Int32} {Q : Int32 → Sg → Prop} (h : wX5_failureOf σ l1 Q) : CT G mX5_failureOf 2 [.ref (gad G 14), .int l1] σ (qi Q) := ct_of rfl (Nat.le_of_ble_eq_true rfl) rfl (xX5_failureOf hG h)
/-! X5_codeOf codeOf -/
def wX5_codeOf (σ : Sg) (l1 : Int32) (Q : Int32 → Sg → Prop) : Prop :=
  wX5_has σ l1 (fun r2 σ1 =>
  (r2 = 0 → (
    Q (0 : Int32) σ1
  )) ∧ (¬ r2 = 0 → (
    vp_in l1 200 ∧
    Q (sI σ1 19 (l1).toNatClampNeg) σ1
  ))
  )
set_option maxRecDepth 100000 in
set_option maxHeartbeats 4000000 in
theorem xX5_codeOf {G : Gx} (hG : gLy G = LyC) {σ : Sg} {l1 : Int32} {Q : Int32 → Sg → Prop} (h : wX5_codeOf σ l1 Q) : X G mX5_codeOf 2 0 [(0, .ref (gad G 14)), (1, .int l1)] [] σ (qi Q) := by
  unfold wX5_codeOf at h
  refine x_aload_n dX5_codeOf_0 rfl 0 rfl ?_
  refine x_iload_n dX5_codeOf_1 rfl 1 rfl ?_
  refine x_callVi [_] hG mv_X5_has lk_X5_43 rfl rfl rfl ⟨by decide, by decide⟩ rfl (Nat.le_of_ble_eq_true rfl) dX5_codeOf_2 (ct_X5_has hG h) (fun r2 σ1 h => ?_)
  refine x_if_eq dX5_codeOf_5 17 (by decide) (fun c => ?_) (fun c => ?_)
  · replace h := h.1 c
    refine x_iconst (v := (0 : Int32)) dX5_codeOf_17 rfl ?_
    exact x_iret rfl dX5_codeOf_18 ⟨_, rfl, h⟩
  · replace h := h.2 c
    refine x_aload_n dX5_codeOf_8 rfl 0 rfl ?_
    refine x_getR (q := 19) hG fg_X5_24 dX5_codeOf_9 ?_
    refine x_iload_n dX5_codeOf_12 rfl 1 rfl ?_
    refine x_ialdv hG rfl dX5_codeOf_13 h.1 rfl ?_
    replace h := h.2
    refine x_goto dX5_codeOf_14 18 (by decide) ?_
    exact x_iret rfl dX5_codeOf_18 ⟨_, rfl, h⟩
theorem ct_X5_codeOf {G : Gx} (hG : gLy G = LyC) {σ : Sg} {l1 : Int32} {Q : Int32 → Sg → Prop} (h : wX5_codeOf σ l1 Q) : CT G mX5_codeOf 2 [.ref (gad G 14), .int l1] σ (qi Q) := ct_of rfl (Nat.le_of_ble_eq_true rfl) rfl (xX5_codeOf hG h)
/-! X5_valueOf valueOf -/
def wX5_valueOf (σ : Sg) (l1 : Int32) (Q : Int64 → Sg → Prop) : Prop :=
  wX5_has σ l1 (fun r2 σ1 =>
  (r2 = 0 → (
    Q (4294967296 : Int64) σ1
  )) ∧ (¬ r2 = 0 → (
    vp_in l1 200 ∧
    Q (sL σ1 20 (l1).toNatClampNeg) σ1
  ))
  )
set_option maxRecDepth 100000 in
set_option maxHeartbeats 4000000 in
theorem xX5_valueOf {G : Gx} (hG : gLy G = LyC) {σ : Sg} {l1 : Int32} {Q : Int64 → Sg → Prop} (h : wX5_valueOf σ l1 Q) : X G mX5_valueOf 2 0 [(0, .ref (gad G 14)), (1, .int l1)] [] σ (ql Q) := by
  unfold wX5_valueOf at h
  refine x_aload_n dX5_valueOf_0 rfl 0 rfl ?_
  refine x_iload_n dX5_valueOf_1 rfl 1 rfl ?_
  refine x_callVi [_] hG mv_X5_has lk_X5_43 rfl rfl rfl ⟨by decide, by decide⟩ rfl (Nat.le_of_ble_eq_true rfl) dX5_valueOf_2 (ct_X5_has hG h) (fun r2 σ1 h => ?_)
  refine x_if_eq dX5_valueOf_5 17 (by decide) (fun c => ?_) (fun c => ?_)
  · replace h := h.1 c
    refine x_ldc2 dX5_valueOf_17 cl_X5_37 ?_
    exact x_lret rfl dX5_valueOf_20 ⟨_, rfl, h⟩
  · replace h := h.2 c
    refine x_aload_n dX5_valueOf_8 rfl 0 rfl ?_
    refine x_getR (q := 20) hG fg_X5_27 dX5_valueOf_9 ?_
    refine x_iload_n dX5_valueOf_12 rfl 1 rfl ?_
    refine x_laldv hG rfl dX5_valueOf_13 h.1 rfl ?_
    replace h := h.2
    refine x_goto dX5_valueOf_14 20 (by decide) ?_
    exact x_lret rfl dX5_valueOf_20 ⟨_, rfl, h⟩
theorem ct_X5_valueOf {G : Gx} (hG : gLy G = LyC) {σ : Sg} {l1 : Int32} {Q : Int64 → Sg → Prop} (h : wX5_valueOf σ l1 Q) : CT G mX5_valueOf 2 [.ref (gad G 14), .int l1] σ (ql Q) := ct_of rfl (Nat.le_of_ble_eq_true rfl) rfl (xX5_valueOf hG h)
/-! X5_setState setState -/
def wX5_setState (σ : Sg) (l1 : Int32) (l2 : Int32) (Q : Sg → Prop) : Prop :=
  wX5_has σ l1 (fun r2 σ1 =>
  (r2 = 0 → (
    Q σ1
  )) ∧ (¬ r2 = 0 → (
    vp_in l1 200 ∧
    let σ3 := wI σ1 17 (l1).toNatClampNeg l2
    Q σ3
  ))
  )
set_option maxRecDepth 100000 in
set_option maxHeartbeats 4000000 in
theorem xX5_setState {G : Gx} (hG : gLy G = LyC) {σ : Sg} {l1 : Int32} {l2 : Int32} {Q : Sg → Prop} (h : wX5_setState σ l1 l2 Q) : X G mX5_setState 2 0 [(0, .ref (gad G 14)), (1, .int l1), (2, .int l2)] [] σ (qv Q) := by
  unfold wX5_setState at h
  refine x_aload_n dX5_setState_0 rfl 0 rfl ?_
  refine x_iload_n dX5_setState_1 rfl 1 rfl ?_
  refine x_callVi [_] hG mv_X5_has lk_X5_43 rfl rfl rfl ⟨by decide, by decide⟩ rfl (Nat.le_of_ble_eq_true rfl) dX5_setState_2 (ct_X5_has hG h) (fun r2 σ1 h => ?_)
  refine x_if_eq dX5_setState_5 15 (by decide) (fun c => ?_) (fun c => ?_)
  · replace h := h.1 c
    exact x_vret rfl dX5_setState_15 ⟨rfl, h⟩
  · replace h := h.2 c
    refine x_aload_n dX5_setState_8 rfl 0 rfl ?_
    refine x_getR (q := 17) hG fg_X5_18 dX5_setState_9 ?_
    refine x_iload_n dX5_setState_12 rfl 1 rfl ?_
    refine x_iload_n dX5_setState_13 rfl 2 rfl ?_
    refine x_iast hG rfl dX5_setState_14 h.1 ?_
    replace h := h.2
    exact x_vret rfl dX5_setState_15 ⟨rfl, h⟩
theorem ct_X5_setState {G : Gx} (hG : gLy G = LyC) {σ : Sg} {l1 : Int32} {l2 : Int32} {Q : Sg → Prop} (h : wX5_setState σ l1 l2 Q) : CT G mX5_setState 2 [.ref (gad G 14), .int l1, .int l2] σ (qv Q) := ct_of rfl (Nat.le_of_ble_eq_true rfl) rfl (xX5_setState hG h)
/-! X5_finish finish -/
def wX5_finish (σ : Sg) (l1 : Int32) (l2 : Int64) (Q : Sg → Prop) : Prop :=
  wX5_has σ l1 (fun r2 σ1 =>
  (r2 = 0 → (
    Q σ1
  )) ∧ (¬ r2 = 0 → (
    vp_in l1 200 ∧
    let σ3 := wI σ1 17 (l1).toNatClampNeg (2 : Int32)
    vp_in l1 200 ∧
    let σ4 := wL σ3 20 (l1).toNatClampNeg l2
    Q σ4
  ))
  )
set_option maxRecDepth 100000 in
set_option maxHeartbeats 4000000 in
theorem xX5_finish {G : Gx} (hG : gLy G = LyC) {σ : Sg} {l1 : Int32} {l2 : Int64} {Q : Sg → Prop} (h : wX5_finish σ l1 l2 Q) : X G mX5_finish 2 0 [(0, .ref (gad G 14)), (1, .int l1), (2, .long l2)] [] σ (qv Q) := by
  unfold wX5_finish at h
  refine x_aload_n dX5_finish_0 rfl 0 rfl ?_
  refine x_iload_n dX5_finish_1 rfl 1 rfl ?_
  refine x_callVi [_] hG mv_X5_has lk_X5_43 rfl rfl rfl ⟨by decide, by decide⟩ rfl (Nat.le_of_ble_eq_true rfl) dX5_finish_2 (ct_X5_has hG h) (fun r2 σ1 h => ?_)
  refine x_if_eq dX5_finish_5 22 (by decide) (fun c => ?_) (fun c => ?_)
  · replace h := h.1 c
    exact x_vret rfl dX5_finish_22 ⟨rfl, h⟩
  · replace h := h.2 c
    refine x_aload_n dX5_finish_8 rfl 0 rfl ?_
    refine x_getR (q := 17) hG fg_X5_18 dX5_finish_9 ?_
    refine x_iload_n dX5_finish_12 rfl 1 rfl ?_
    refine x_iconst (v := (2 : Int32)) dX5_finish_13 rfl ?_
    refine x_iast hG rfl dX5_finish_14 h.1 ?_
    replace h := h.2
    refine x_aload_n dX5_finish_15 rfl 0 rfl ?_
    refine x_getR (q := 20) hG fg_X5_27 dX5_finish_16 ?_
    refine x_iload_n dX5_finish_19 rfl 1 rfl ?_
    refine x_lload_n dX5_finish_20 rfl 2 rfl ?_
    refine x_last hG rfl dX5_finish_21 h.1 ?_
    replace h := h.2
    exact x_vret rfl dX5_finish_22 ⟨rfl, h⟩
theorem ct_X5_finish {G : Gx} (hG : gLy G = LyC) {σ : Sg} {l1 : Int32} {l2 : Int64} {Q : Sg → Prop} (h : wX5_finish σ l1 l2 Q) : CT G mX5_finish 2 [.ref (gad G 14), .int l1, .long l2] σ (qv Q) := ct_of rfl (Nat.le_of_ble_eq_true rfl) rfl (xX5_finish hG h)
/-! X5_giveUp giveUp -/
def wX5_giveUp (σ : Sg) (l1 : Int32) (l2 : Int32) (l3 : Int32) (Q : Sg → Prop) : Prop :=
  wX5_has σ l1 (fun r2 σ1 =>
  (r2 = 0 → (
    Q σ1
  )) ∧ (¬ r2 = 0 → (
    vp_in l1 200 ∧
    let σ3 := wI σ1 17 (l1).toNatClampNeg (3 : Int32)
    vp_in l1 200 ∧
    let σ4 := wI σ3 18 (l1).toNatClampNeg l2
    vp_in l1 200 ∧
    let σ5 := wI σ4 19 (l1).toNatClampNeg l3
    Q σ5
  ))
  )
set_option maxRecDepth 100000 in
set_option maxHeartbeats 4000000 in
theorem xX5_giveUp {G : Gx} (hG : gLy G = LyC) {σ : Sg} {l1 : Int32} {l2 : Int32} {l3 : Int32} {Q : Sg → Prop} (h : wX5_giveUp σ l1 l2 l3 Q) : X G mX5_giveUp 2 0 [(0, .ref (gad G 14)), (1, .int l1), (2, .int l2), (3, .int l3)] [] σ (qv Q) := by
  unfold wX5_giveUp at h
  refine x_aload_n dX5_giveUp_0 rfl 0 rfl ?_
  refine x_iload_n dX5_giveUp_1 rfl 1 rfl ?_
  refine x_callVi [_] hG mv_X5_has lk_X5_43 rfl rfl rfl ⟨by decide, by decide⟩ rfl (Nat.le_of_ble_eq_true rfl) dX5_giveUp_2 (ct_X5_has hG h) (fun r2 σ1 h => ?_)
  refine x_if_eq dX5_giveUp_5 29 (by decide) (fun c => ?_) (fun c => ?_)
  · replace h := h.1 c
    exact x_vret rfl dX5_giveUp_29 ⟨rfl, h⟩
  · replace h := h.2 c
    refine x_aload_n dX5_giveUp_8 rfl 0 rfl ?_
    refine x_getR (q := 17) hG fg_X5_18 dX5_giveUp_9 ?_
    refine x_iload_n dX5_giveUp_12 rfl 1 rfl ?_
    refine x_iconst (v := (3 : Int32)) dX5_giveUp_13 rfl ?_
    refine x_iast hG rfl dX5_giveUp_14 h.1 ?_
    replace h := h.2
    refine x_aload_n dX5_giveUp_15 rfl 0 rfl ?_
    refine x_getR (q := 18) hG fg_X5_21 dX5_giveUp_16 ?_
    refine x_iload_n dX5_giveUp_19 rfl 1 rfl ?_
    refine x_iload_n dX5_giveUp_20 rfl 2 rfl ?_
    refine x_iast hG rfl dX5_giveUp_21 h.1 ?_
    replace h := h.2
    refine x_aload_n dX5_giveUp_22 rfl 0 rfl ?_
    refine x_getR (q := 19) hG fg_X5_24 dX5_giveUp_23 ?_
    refine x_iload_n dX5_giveUp_26 rfl 1 rfl ?_
    refine x_iload_n dX5_giveUp_27 rfl 3 rfl ?_
    refine x_iast hG rfl dX5_giveUp_28 h.1 ?_
    replace h := h.2
    exact x_vret rfl dX5_giveUp_29 ⟨rfl, h⟩
theorem ct_X5_giveUp {G : Gx} (hG : gLy G = LyC) {σ : Sg} {l1 : Int32} {l2 : Int32} {l3 : Int32} {Q : Sg → Prop} (h : wX5_giveUp σ l1 l2 l3 Q) : CT G mX5_giveUp 2 [.ref (gad G 14), .int l1, .int l2, .int l3] σ (qv Q) := ct_of rfl (Nat.le_of_ble_eq_true rfl) rfl (xX5_giveUp hG h)
