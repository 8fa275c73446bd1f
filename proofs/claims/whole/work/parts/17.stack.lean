/-! X8_restart restart -/
def wX8_restart (σ : Sg) (Q : Sg → Prop) : Prop :=
  let σ1 := wI σ 21 8 (0 : Int32)
  let σ2 := wI σ1 21 9 (0 : Int32)
  Q σ2
set_option maxRecDepth 100000 in
set_option maxHeartbeats 4000000 in
theorem xX8_restart {G : Gx} (hG : gLy G = LyC) {σ : Sg} {Q : Sg → Prop} (h : wX8_restart σ Q) : X G mX8_restart 1 0 [(0, .ref (gad G 21))] [] σ (qv Q) := by
  unfold wX8_restart at h
  refine x_aload_n dX8_restart_0 rfl 0 rfl ?_
  refine x_iconst (v := (0 : Int32)) dX8_restart_1 rfl ?_
  refine x_putI hG fp_X8_37 dX8_restart_2 ?_
  refine x_aload_n dX8_restart_5 rfl 0 rfl ?_
  refine x_iconst (v := (0 : Int32)) dX8_restart_6 rfl ?_
  refine x_putI hG fp_X8_41 dX8_restart_7 ?_
  exact x_vret rfl dX8_restart_10 ⟨rfl, h⟩
theorem ct_X8_restart {G : Gx} (hG : gLy G = LyC) {σ : Sg} {Q : Sg → Prop} (h : wX8_restart σ Q) : CT G mX8_restart 1 [.ref (gad G 21)] σ (qv Q) := ct_of rfl (Nat.le_of_ble_eq_true rfl) rfl (xX8_restart hG h)
/-! X8_push push -/
def wX8_push (σ : Sg) (l1 : Int32) (l2 : Int32) (l3 : Int32) (Q : Sg → Prop) : Prop :=
  ((sI σ 21 8) < (200 : Int32) → (
    let σ1 := wI σ 21 9 (sI σ 21 8)
    let σ2 := wI σ1 21 8 ((sI σ 21 8) + (1 : Int32))
    vp_in (sI σ 21 8) 200 ∧
    let σ3 := wI σ2 22 ((sI σ 21 8)).toNatClampNeg l1
    vp_in (sI σ 21 8) 200 ∧
    let σ4 := wI σ3 23 ((sI σ 21 8)).toNatClampNeg l2
    vp_in (sI σ 21 8) 200 ∧
    let σ5 := wI σ4 24 ((sI σ 21 8)).toNatClampNeg (0 : Int32)
    vp_in (sI σ 21 8) 200 ∧
    let σ6 := wI σ5 26 ((sI σ 21 8)).toNatClampNeg l3
    vp_in (sI σ 21 8) 200 ∧
    let σ7 := wI σ6 27 ((sI σ 21 8)).toNatClampNeg (0 : Int32)
    Q σ7
  )) ∧ (¬ (sI σ 21 8) < (200 : Int32) → (
    Q σ
  ))
set_option maxRecDepth 100000 in
set_option maxHeartbeats 4000000 in
theorem xX8_push {G : Gx} (hG : gLy G = LyC) {σ : Sg} {l1 : Int32} {l2 : Int32} {l3 : Int32} {Q : Sg → Prop} (h : wX8_push σ l1 l2 l3 Q) : X G mX8_push 1 0 [(0, .ref (gad G 21)), (1, .int l1), (2, .int l2), (3, .int l3)] [] σ (qv Q) := by
  unfold wX8_push at h
  refine x_aload_n dX8_push_0 rfl 0 rfl ?_
  refine x_getIv hG fg_X8_37 dX8_push_1 rfl ?_
  refine x_sipush (v := (200 : Int32)) dX8_push_4 rfl ?_
  refine x_icmp_lt dX8_push_7 11 (by decide) (fun c => ?_) (fun c => ?_)
  · replace h := h.1 c
    refine x_aload_n dX8_push_11 rfl 0 rfl ?_
    refine x_aload_n dX8_push_12 rfl 0 rfl ?_
    refine x_getIv hG fg_X8_37 dX8_push_13 rfl ?_
    refine x_putI hG fp_X8_41 dX8_push_16 ?_
    refine x_aload_n dX8_push_19 rfl 0 rfl ?_
    refine x_dup dX8_push_20 rfl ?_
    refine x_getIv hG fg_X8_37 dX8_push_21 (rd_nj (by decide) rfl) ?_
    refine x_iconst (v := (1 : Int32)) dX8_push_24 rfl ?_
    refine x_iadd dX8_push_25 ?_
    refine x_putI hG fp_X8_37 dX8_push_26 ?_
    refine x_aload_n dX8_push_29 rfl 0 rfl ?_
    refine x_getR (q := 22) hG fg_X8_9 dX8_push_30 ?_
    refine x_aload_n dX8_push_33 rfl 0 rfl ?_
    refine x_getIv hG fg_X8_41 dX8_push_34 (rd_nj (by decide) rd_hit) ?_
    refine x_iload_n dX8_push_37 rfl 1 rfl ?_
    refine x_iast hG rfl dX8_push_38 h.1 ?_
    replace h := h.2
    refine x_aload_n dX8_push_39 rfl 0 rfl ?_
    refine x_getR (q := 23) hG fg_X8_15 dX8_push_40 ?_
    refine x_aload_n dX8_push_43 rfl 0 rfl ?_
    refine x_getIv hG fg_X8_41 dX8_push_44 (rd_no (by decide) (rd_nj (by decide) rd_hit)) ?_
    refine x_iload_n dX8_push_47 rfl 2 rfl ?_
    refine x_iast hG rfl dX8_push_48 h.1 ?_
    replace h := h.2
    refine x_aload_n dX8_push_49 rfl 0 rfl ?_
    refine x_getR (q := 24) hG fg_X8_18 dX8_push_50 ?_
    refine x_aload_n dX8_push_53 rfl 0 rfl ?_
    refine x_getIv hG fg_X8_41 dX8_push_54 (rd_no (by decide) (rd_no (by decide) (rd_nj (by decide) rd_hit))) ?_
    refine x_iconst (v := (0 : Int32)) dX8_push_57 rfl ?_
    refine x_iast hG rfl dX8_push_58 h.1 ?_
    replace h := h.2
    refine x_aload_n dX8_push_59 rfl 0 rfl ?_
    refine x_getR (q := 26) hG fg_X8_25 dX8_push_60 ?_
    refine x_aload_n dX8_push_63 rfl 0 rfl ?_
    refine x_getIv hG fg_X8_41 dX8_push_64 (rd_no (by decide) (rd_no (by decide) (rd_no (by decide) (rd_nj (by decide) rd_hit)))) ?_
    refine x_iload_n dX8_push_67 rfl 3 rfl ?_
    refine x_iast hG rfl dX8_push_68 h.1 ?_
    replace h := h.2
    refine x_aload_n dX8_push_69 rfl 0 rfl ?_
    refine x_getR (q := 27) hG fg_X8_28 dX8_push_70 ?_
    refine x_aload_n dX8_push_73 rfl 0 rfl ?_
    refine x_getIv hG fg_X8_41 dX8_push_74 (rd_no (by decide) (rd_no (by decide) (rd_no (by decide) (rd_no (by decide) (rd_nj (by decide) rd_hit))))) ?_
    refine x_iconst (v := (0 : Int32)) dX8_push_77 rfl ?_
    refine x_iast hG rfl dX8_push_78 h.1 ?_
    replace h := h.2
    exact x_vret rfl dX8_push_79 ⟨rfl, h⟩
  · replace h := h.2 c
    exact x_vret rfl dX8_push_10 ⟨rfl, h⟩
theorem ct_X8_push {G : Gx} (hG : gLy G = LyC) {σ : Sg} {l1 : Int32} {l2 : Int32} {l3 : Int32} {Q : Sg → Prop} (h : wX8_push σ l1 l2 l3 Q) : CT G mX8_push 1 [.ref (gad G 21), .int l1, .int l2, .int l3] σ (qv Q) := ct_of rfl (Nat.le_of_ble_eq_true rfl) rfl (xX8_push hG h)
/-! X8_isEmpty isEmpty -/
def wX8_isEmpty (σ : Sg) (Q : Int32 → Sg → Prop) : Prop :=
  ((sI σ 21 8) = 0 → (
    Q (1 : Int32) σ
  )) ∧ (¬ (sI σ 21 8) = 0 → (
    Q (0 : Int32) σ
  ))
set_option maxRecDepth 100000 in
set_option maxHeartbeats 4000000 in
theorem xX8_isEmpty {G : Gx} (hG : gLy G = LyC) {σ : Sg} {Q : Int32 → Sg → Prop} (h : wX8_isEmpty σ Q) : X G mX8_isEmpty 1 0 [(0, .ref (gad G 21))] [] σ (qi Q) := by
  unfold wX8_isEmpty at h
  refine x_aload_n dX8_isEmpty_0 rfl 0 rfl ?_
  refine x_getIv hG fg_X8_37 dX8_isEmpty_1 rfl ?_
  refine x_if_ne dX8_isEmpty_4 11 (by decide) (fun c => ?_) (fun c => ?_)
  · replace h := h.1 c
    refine x_iconst (v := (1 : Int32)) dX8_isEmpty_7 rfl ?_
    refine x_goto dX8_isEmpty_8 12 (by decide) ?_
    exact x_zret rfl bz_1 dX8_isEmpty_12 ⟨_, rfl, h⟩
  · replace h := h.2 c
    refine x_iconst (v := (0 : Int32)) dX8_isEmpty_11 rfl ?_
    exact x_zret rfl bz_0 dX8_isEmpty_12 ⟨_, rfl, h⟩
theorem ct_X8_isEmpty {G : Gx} (hG : gLy G = LyC) {σ : Sg} {Q : Int32 → Sg → Prop} (h : wX8_isEmpty σ Q) : CT G mX8_isEmpty 1 [.ref (gad G 21)] σ (qi Q) := ct_of rfl (Nat.le_of_ble_eq_true rfl) rfl (xX8_isEmpty hG h)
/-! X8_actOnTop actOnTop -/
def wX8_actOnTop (σ : Sg) (Q : Int32 → Sg → Prop) : Prop :=
  vp_in (sI σ 21 9) 200 ∧
  Q (sI σ 22 ((sI σ 21 9)).toNatClampNeg) σ
set_option maxRecDepth 100000 in
set_option maxHeartbeats 4000000 in
theorem xX8_actOnTop {G : Gx} (hG : gLy G = LyC) {σ : Sg} {Q : Int32 → Sg → Prop} (h : wX8_actOnTop σ Q) : X G mX8_actOnTop 1 0 [(0, .ref (gad G 21))] [] σ (qi Q) := by
  unfold wX8_actOnTop at h
  refine x_aload_n dX8_actOnTop_0 rfl 0 rfl ?_
  refine x_getR (q := 22) hG fg_X8_9 dX8_actOnTop_1 ?_
  refine x_aload_n dX8_actOnTop_4 rfl 0 rfl ?_
  refine x_getIv hG fg_X8_41 dX8_actOnTop_5 rfl ?_
  refine x_ialdv hG rfl dX8_actOnTop_8 h.1 rfl ?_
  replace h := h.2
  exact x_iret rfl dX8_actOnTop_9 ⟨_, rfl, h⟩
theorem ct_X8_actOnTop {G : Gx} (hG : gLy G = LyC) {σ : Sg} {Q : Int32 → Sg → Prop} (h : wX8_actOnTop σ Q) : CT G mX8_actOnTop 1 [.ref (gad G 21)] σ (qi Q) := ct_of rfl (Nat.le_of_ble_eq_true rfl) rfl (xX8_actOnTop hG h)
/-! X8_stage stage -/
def wX8_stage (σ : Sg) (Q : Int32 → Sg → Prop) : Prop :=
  vp_in (sI σ 21 9) 200 ∧
  Q (sI σ 24 ((sI σ 21 9)).toNatClampNeg) σ
set_option maxRecDepth 100000 in
set_option maxHeartbeats 4000000 in
theorem xX8_stage {G : Gx} (hG : gLy G = LyC) {σ : Sg} {Q : Int32 → Sg → Prop} (h : wX8_stage σ Q) : X G mX8_stage 1 0 [(0, .ref (gad G 21))] [] σ (qi Q) := by
  unfold wX8_stage at h
  refine x_aload_n dX8_stage_0 rfl 0 rfl ?_
  refine x_getR (q := 24) hG fg_X8_18 dX8_stage_1 ?_
  refine x_aload_n dX8_stage_4 rfl 0 rfl ?_
  refine x_getIv hG fg_X8_41 dX8_stage_5 rfl ?_
  refine x_ialdv hG rfl dX8_stage_8 h.1 rfl ?_
  replace h := h.2
  exact x_iret rfl dX8_stage_9 ⟨_, rfl, h⟩
theorem ct_X8_stage {G : Gx} (hG : gLy G = LyC) {σ : Sg} {Q : Int32 → Sg → Prop} (h : wX8_stage σ Q) : CT G mX8_stage 1 [.ref (gad G 21)] σ (qi Q) := ct_of rfl (Nat.le_of_ble_eq_true rfl) rfl (xX8_stage hG h)
/-! X8_frame frame -/
def wX8_frame (σ : Sg) (Q : Int32 → Sg → Prop) : Prop :=
  vp_in (sI σ 21 9) 200 ∧
  Q (sI σ 23 ((sI σ 21 9)).toNatClampNeg) σ
set_option maxRecDepth 100000 in
set_option maxHeartbeats 4000000 in
theorem xX8_frame {G : Gx} (hG : gLy G = LyC) {σ : Sg} {Q : Int32 → Sg → Prop} (h : wX8_frame σ Q) : X G mX8_frame 1 0 [(0, .ref (gad G 21))] [] σ (qi Q) := by
  unfold wX8_frame at h
  refine x_aload_n dX8_frame_0 rfl 0 rfl ?_
  refine x_getR (q := 23) hG fg_X8_15 dX8_frame_1 ?_
  refine x_aload_n dX8_frame_4 rfl 0 rfl ?_
  refine x_getIv hG fg_X8_41 dX8_frame_5 rfl ?_
  refine x_ialdv hG rfl dX8_frame_8 h.1 rfl ?_
  replace h := h.2
  exact x_iret rfl dX8_frame_9 ⟨_, rfl, h⟩
theorem ct_X8_frame {G : Gx} (hG : gLy G = LyC) {σ : Sg} {Q : Int32 → Sg → Prop} (h : wX8_frame σ Q) : CT G mX8_frame 1 [.ref (gad G 21)] σ (qi Q) := ct_of rfl (Nat.le_of_ble_eq_true rfl) rfl (xX8_frame hG h)
/-! X8_setStage setStage -/
def wX8_setStage (σ : Sg) (l1 : Int32) (Q : Sg → Prop) : Prop :=
  vp_in (sI σ 21 9) 200 ∧
  let σ1 := wI σ 24 ((sI σ 21 9)).toNatClampNeg l1
  Q σ1
set_option maxRecDepth 100000 in
set_option maxHeartbeats 4000000 in
theorem xX8_setStage {G : Gx} (hG : gLy G = LyC) {σ : Sg} {l1 : Int32} {Q : Sg → Prop} (h : wX8_setStage σ l1 Q) : X G mX8_setStage 1 0 [(0, .ref (gad G 21)), (1, .int l1)] [] σ (qv Q) := by
  unfold wX8_setStage at h
  refine x_aload_n dX8_setStage_0 rfl 0 rfl ?_
  refine x_getR (q := 24) hG fg_X8_18 dX8_setStage_1 ?_
  refine x_aload_n dX8_setStage_4 rfl 0 rfl ?_
  refine x_getIv hG fg_X8_41 dX8_setStage_5 rfl ?_
  refine x_iload_n dX8_setStage_8 rfl 1 rfl ?_
  refine x_iast hG rfl dX8_setStage_9 h.1 ?_
  replace h := h.2
  exact x_vret rfl dX8_setStage_10 ⟨rfl, h⟩
theorem ct_X8_setStage {G : Gx} (hG : gLy G = LyC) {σ : Sg} {l1 : Int32} {Q : Sg → Prop} (h : wX8_setStage σ l1 Q) : CT G mX8_setStage 1 [.ref (gad G 21), .int l1] σ (qv Q) := ct_of rfl (Nat.le_of_ble_eq_true rfl) rfl (xX8_setStage hG h)
/-! X8_hold hold -/
def wX8_hold (σ : Sg) (Q : Sg → Prop) : Prop :=
  vp_in (sI σ 21 9) 200 ∧
  let σ1 := wI σ 27 ((sI σ 21 9)).toNatClampNeg (sI σ 10 3)
  vp_in (sI σ 21 9) 200 ∧
  let σ2 := wI σ1 28 ((sI σ 21 9)).toNatClampNeg (sI σ 10 4)
  vp_in (sI σ 21 9) 200 ∧
  let σ3 := wI σ2 29 ((sI σ 21 9)).toNatClampNeg (sI σ 10 5)
  Q σ3
set_option maxRecDepth 100000 in
set_option maxHeartbeats 4000000 in
theorem xX8_hold {G : Gx} (hG : gLy G = LyC) {σ : Sg} {Q : Sg → Prop} (h : wX8_hold σ Q) : X G mX8_hold 1 0 [(0, .ref (gad G 21)), (1, .ref (gad G 10))] [] σ (qv Q) := by
  unfold wX8_hold at h
  refine x_aload_n dX8_hold_0 rfl 0 rfl ?_
  refine x_getR (q := 27) hG fg_X8_28 dX8_hold_1 ?_
  refine x_aload_n dX8_hold_4 rfl 0 rfl ?_
  refine x_getIv hG fg_X8_41 dX8_hold_5 rfl ?_
  refine x_aload_n dX8_hold_8 rfl 1 rfl ?_
  refine x_getIv hG fg_X8_48 dX8_hold_9 rfl ?_
  refine x_iast hG rfl dX8_hold_12 h.1 ?_
  replace h := h.2
  refine x_aload_n dX8_hold_13 rfl 0 rfl ?_
  refine x_getR (q := 28) hG fg_X8_31 dX8_hold_14 ?_
  refine x_aload_n dX8_hold_17 rfl 0 rfl ?_
  refine x_getIv hG fg_X8_41 dX8_hold_18 (rd_no (by decide) rfl) ?_
  refine x_aload_n dX8_hold_21 rfl 1 rfl ?_
  refine x_getIv hG fg_X8_53 dX8_hold_22 (rd_no (by decide) rfl) ?_
  refine x_iast hG rfl dX8_hold_25 h.1 ?_
  replace h := h.2
  refine x_aload_n dX8_hold_26 rfl 0 rfl ?_
  refine x_getR (q := 29) hG fg_X8_34 dX8_hold_27 ?_
  refine x_aload_n dX8_hold_30 rfl 0 rfl ?_
  refine x_getIv hG fg_X8_41 dX8_hold_31 (rd_no (by decide) (rd_no (by decide) rfl)) ?_
  refine x_aload_n dX8_hold_34 rfl 1 rfl ?_
  refine x_getIv hG fg_X8_56 dX8_hold_35 (rd_no (by decide) (rd_no (by decide) rfl)) ?_
  refine x_iast hG rfl dX8_hold_38 h.1 ?_
  replace h := h.2
  exact x_vret rfl dX8_hold_39 ⟨rfl, h⟩
theorem ct_X8_hold {G : Gx} (hG : gLy G = LyC) {σ : Sg} {Q : Sg → Prop} (h : wX8_hold σ Q) : CT G mX8_hold 1 [.ref (gad G 21), .ref (gad G 10)] σ (qv Q) := ct_of rfl (Nat.le_of_ble_eq_true rfl) rfl (xX8_hold hG h)
/-! X8_value value -/
def wX8_value (σ : Sg) (l1 : Int32) (Q : Int64 → Sg → Prop) : Prop :=
  (l1 < 0 → (
    Q (4294967296 : Int64) σ
  )) ∧ (¬ l1 < 0 → (
    (l1 < (3 : Int32) → (
      vp_in (((3 : Int32) * (sI σ 21 9)) + l1) 600 ∧
      Q (sL σ 25 ((((3 : Int32) * (sI σ 21 9)) + l1)).toNatClampNeg) σ
    )) ∧ (¬ l1 < (3 : Int32) → (
      Q (4294967296 : Int64) σ
    ))
  ))
set_option maxRecDepth 100000 in
set_option maxHeartbeats 4000000 in
theorem xX8_value {G : Gx} (hG : gLy G = LyC) {σ : Sg} {l1 : Int32} {Q : Int64 → Sg → Prop} (h : wX8_value σ l1 Q) : X G mX8_value 1 0 [(0, .ref (gad G 21)), (1, .int l1)] [] σ (ql Q) := by
  unfold wX8_value at h
  refine x_iload_n dX8_value_0 rfl 1 rfl ?_
  refine x_if_lt dX8_value_1 25 (by decide) (fun c => ?_) (fun c => ?_)
  · replace h := h.1 c
    refine x_ldc2 dX8_value_25 cl_X8_46 ?_
    exact x_lret rfl dX8_value_28 ⟨_, rfl, h⟩
  · replace h := h.2 c
    refine x_iload_n dX8_value_4 rfl 1 rfl ?_
    refine x_iconst (v := (3 : Int32)) dX8_value_5 rfl ?_
    refine x_icmp_ge dX8_value_6 25 (by decide) (fun c => ?_) (fun c => ?_)
    · replace h := h.1 c
      refine x_aload_n dX8_value_9 rfl 0 rfl ?_
      refine x_getR (q := 25) hG fg_X8_21 dX8_value_10 ?_
      refine x_iconst (v := (3 : Int32)) dX8_value_13 rfl ?_
      refine x_aload_n dX8_value_14 rfl 0 rfl ?_
      refine x_getIv hG fg_X8_41 dX8_value_15 rfl ?_
      refine x_imul dX8_value_18 ?_
      refine x_iload_n dX8_value_19 rfl 1 rfl ?_
      refine x_iadd dX8_value_20 ?_
      refine x_laldv hG rfl dX8_value_21 h.1 rfl ?_
      replace h := h.2
      refine x_goto dX8_value_22 28 (by decide) ?_
      exact x_lret rfl dX8_value_28 ⟨_, rfl, h⟩
    · replace h := h.2 c
      refine x_ldc2 dX8_value_25 cl_X8_46 ?_
      exact x_lret rfl dX8_value_28 ⟨_, rfl, h⟩
theorem ct_X8_value {G : Gx} (hG : gLy G = LyC) {σ : Sg} {l1 : Int32} {Q : Int64 → Sg → Prop} (h : wX8_value σ l1 Q) : CT G mX8_value 1 [.ref (gad G 21), .int l1] σ (ql Q) := ct_of rfl (Nat.le_of_ble_eq_true rfl) rfl (xX8_value hG h)
/-! X8_mark mark -/
def wX8_mark (σ : Sg) (Q : Int32 → Sg → Prop) : Prop :=
  vp_in (sI σ 21 9) 200 ∧
  Q (sI σ 26 ((sI σ 21 9)).toNatClampNeg) σ
set_option maxRecDepth 100000 in
set_option maxHeartbeats 4000000 in
theorem xX8_mark {G : Gx} (hG : gLy G = LyC) {σ : Sg} {Q : Int32 → Sg → Prop} (h : wX8_mark σ Q) : X G mX8_mark 1 0 [(0, .ref (gad G 21))] [] σ (qi Q) := by
  unfold wX8_mark at h
  refine x_aload_n dX8_mark_0 rfl 0 rfl ?_
  refine x_getR (q := 26) hG fg_X8_25 dX8_mark_1 ?_
  refine x_aload_n dX8_mark_4 rfl 0 rfl ?_
  refine x_getIv hG fg_X8_41 dX8_mark_5 rfl ?_
  refine x_ialdv hG rfl dX8_mark_8 h.1 rfl ?_
  replace h := h.2
  exact x_iret rfl dX8_mark_9 ⟨_, rfl, h⟩
theorem ct_X8_mark {G : Gx} (hG : gLy G = LyC) {σ : Sg} {Q : Int32 → Sg → Prop} (h : wX8_mark σ Q) : CT G mX8_mark 1 [.ref (gad G 21)] σ (qi Q) := ct_of rfl (Nat.le_of_ble_eq_true rfl) rfl (xX8_mark hG h)
/-! X8_pop pop -/
def wX8_pop_26 (σ : Sg) (s1 : Int32) (Q : Sg → Prop) : Prop :=
  let σ1 := wI σ 21 9 s1
  Q σ1
set_option maxRecDepth 100000 in
set_option maxHeartbeats 4000000 in
theorem xX8_pop_26 {G : Gx} (hG : gLy G = LyC) {σ : Sg} {s1 : Int32} {Q : Sg → Prop} (h : wX8_pop_26 σ s1 Q) : X G mX8_pop 1 26 [] [.int s1, .ref (gad G 21)] σ (qv Q) := by
  unfold wX8_pop_26 at h
  refine x_putI hG fp_X8_41 dX8_pop_26 ?_
  exact x_vret rfl dX8_pop_29 ⟨rfl, h⟩
def wX8_pop (σ : Sg) (Q : Sg → Prop) : Prop :=
  let σ1 := wI σ 21 8 (sI σ 21 9)
  (0 < (sI σ 21 9) → (
    wX8_pop_26 σ1 ((sI σ 21 9) - (1 : Int32)) Q
  )) ∧ (¬ 0 < (sI σ 21 9) → (
    wX8_pop_26 σ1 (0 : Int32) Q
  ))
set_option maxRecDepth 100000 in
set_option maxHeartbeats 4000000 in
theorem xX8_pop {G : Gx} (hG : gLy G = LyC) {σ : Sg} {Q : Sg → Prop} (h : wX8_pop σ Q) : X G mX8_pop 1 0 [(0, .ref (gad G 21))] [] σ (qv Q) := by
  unfold wX8_pop at h
  refine x_aload_n dX8_pop_0 rfl 0 rfl ?_
  refine x_aload_n dX8_pop_1 rfl 0 rfl ?_
  refine x_getIv hG fg_X8_41 dX8_pop_2 rfl ?_
  refine x_putI hG fp_X8_37 dX8_pop_5 ?_
  refine x_aload_n dX8_pop_8 rfl 0 rfl ?_
  refine x_aload_n dX8_pop_9 rfl 0 rfl ?_
  refine x_getIv hG fg_X8_41 dX8_pop_10 (rd_nj (by decide) rfl) ?_
  refine x_if_le dX8_pop_13 25 (by decide) (fun c => ?_) (fun c => ?_)
  · replace h := h.1 c
    refine x_aload_n dX8_pop_16 rfl 0 rfl ?_
    refine x_getIv hG fg_X8_41 dX8_pop_17 (rd_nj (by decide) rfl) ?_
    refine x_iconst (v := (1 : Int32)) dX8_pop_20 rfl ?_
    refine x_isub dX8_pop_21 ?_
    refine x_goto dX8_pop_22 26 (by decide) ?_
    exact x_sub [] rfl (xX8_pop_26 hG h)
  · replace h := h.2 c
    refine x_iconst (v := (0 : Int32)) dX8_pop_25 rfl ?_
    exact x_sub [] rfl (xX8_pop_26 hG h)
theorem ct_X8_pop {G : Gx} (hG : gLy G = LyC) {σ : Sg} {Q : Sg → Prop} (h : wX8_pop σ Q) : CT G mX8_pop 1 [.ref (gad G 21)] σ (qv Q) := ct_of rfl (Nat.le_of_ble_eq_true rfl) rfl (xX8_pop hG h)
/-! X8_take take -/
def wX8_take (σ : Sg) (l1 : Int64) (Q : Sg → Prop) : Prop :=
  vp_in (sI σ 21 9) 200 ∧
  ((sI σ 24 ((sI σ 21 9)).toNatClampNeg) < 0 → (
    Q σ
  )) ∧ (¬ (sI σ 24 ((sI σ 21 9)).toNatClampNeg) < 0 → (
    ((sI σ 24 ((sI σ 21 9)).toNatClampNeg) < (3 : Int32) → (
      vp_in (((3 : Int32) * (sI σ 21 9)) + (sI σ 24 ((sI σ 21 9)).toNatClampNeg)) 600 ∧
      let σ1 := wL σ 25 ((((3 : Int32) * (sI σ 21 9)) + (sI σ 24 ((sI σ 21 9)).toNatClampNeg))).toNatClampNeg l1
      vp_in (sI σ 21 9) 200 ∧
      let σ2 := wI σ1 24 ((sI σ 21 9)).toNatClampNeg ((sI σ 24 ((sI σ 21 9)).toNatClampNeg) + (1 : Int32))
      Q σ2
    )) ∧ (¬ (sI σ 24 ((sI σ 21 9)).toNatClampNeg) < (3 : Int32) → (
      Q σ
    ))
  ))
set_option maxRecDepth 100000 in
set_option maxHeartbeats 4000000 in
theorem xX8_take {G : Gx} (hG : gLy G = LyC) {σ : Sg} {l1 : Int64} {Q : Sg → Prop} (h : wX8_take σ l1 Q) : X G mX8_take 1 0 [(0, .ref (gad G 21)), (1, .long l1)] [] σ (qv Q) := by
  unfold wX8_take at h
  refine x_aload_n dX8_take_0 rfl 0 rfl ?_
  refine x_getR (q := 24) hG fg_X8_18 dX8_take_1 ?_
  refine x_aload_n dX8_take_4 rfl 0 rfl ?_
  refine x_getIv hG fg_X8_41 dX8_take_5 rfl ?_
  refine x_ialdv hG rfl dX8_take_8 h.1 rfl ?_
  replace h := h.2
  refine x_istore_n dX8_take_9 rfl (Nat.le_of_ble_eq_true rfl) (lv' := [(3, _), (0, _), (1, _)]) rfl ?_
  refine x_iload_n dX8_take_10 rfl 0 rfl ?_
  refine x_if_lt dX8_take_11 45 (by decide) (fun c => ?_) (fun c => ?_)
  · replace h := h.1 c
    exact x_vret rfl dX8_take_45 ⟨rfl, h⟩
  · replace h := h.2 c
    refine x_iload_n dX8_take_14 rfl 0 rfl ?_
    refine x_iconst (v := (3 : Int32)) dX8_take_15 rfl ?_
    refine x_icmp_ge dX8_take_16 45 (by decide) (fun c => ?_) (fun c => ?_)
    · replace h := h.1 c
      refine x_aload_n dX8_take_19 rfl 1 rfl ?_
      refine x_getR (q := 25) hG fg_X8_21 dX8_take_20 ?_
      refine x_iconst (v := (3 : Int32)) dX8_take_23 rfl ?_
      refine x_aload_n dX8_take_24 rfl 1 rfl ?_
      refine x_getIv hG fg_X8_41 dX8_take_25 rfl ?_
      refine x_imul dX8_take_28 ?_
      refine x_iload_n dX8_take_29 rfl 0 rfl ?_
      refine x_iadd dX8_take_30 ?_
      refine x_lload_n dX8_take_31 rfl 2 rfl ?_
      refine x_last hG rfl dX8_take_32 h.1 ?_
      replace h := h.2
      refine x_aload_n dX8_take_33 rfl 1 rfl ?_
      refine x_getR (q := 24) hG fg_X8_18 dX8_take_34 ?_
      refine x_aload_n dX8_take_37 rfl 1 rfl ?_
      refine x_getIv hG fg_X8_41 dX8_take_38 (rd_L rfl) ?_
      refine x_iload_n dX8_take_41 rfl 0 rfl ?_
      refine x_iconst (v := (1 : Int32)) dX8_take_42 rfl ?_
      refine x_iadd dX8_take_43 ?_
      refine x_iast hG rfl dX8_take_44 h.1 ?_
      replace h := h.2
      exact x_vret rfl dX8_take_45 ⟨rfl, h⟩
    · replace h := h.2 c
      exact x_vret rfl dX8_take_45 ⟨rfl, h⟩
theorem ct_X8_take {G : Gx} (hG : gLy G = LyC) {σ : Sg} {l1 : Int64} {Q : Sg → Prop} (h : wX8_take σ l1 Q) : CT G mX8_take 1 [.ref (gad G 21), .long l1] σ (qv Q) := ct_of rfl (Nat.le_of_ble_eq_true rfl) rfl (xX8_take hG h)
/-! X8_holdsFailure holdsFailure -/
def wX8_holdsFailure (σ : Sg) (Q : Int32 → Sg → Prop) : Prop :=
  vp_in (sI σ 21 9) 200 ∧
  ((sI σ 27 ((sI σ 21 9)).toNatClampNeg) = 0 → (
    Q (0 : Int32) σ
  )) ∧ (¬ (sI σ 27 ((sI σ 21 9)).toNatClampNeg) = 0 → (
    Q (1 : Int32) σ
  ))
set_option maxRecDepth 100000 in
set_option maxHeartbeats 4000000 in
theorem xX8_holdsFailure {G : Gx} (hG : gLy G = LyC) {σ : Sg} {Q : Int32 → Sg → Prop} (h : wX8_holdsFailure σ Q) : X G mX8_holdsFailure 1 0 [(0, .ref (gad G 21))] [] σ (qi Q) := by
  unfold wX8_holdsFailure at h
  refine x_aload_n dX8_holdsFailure_0 rfl 0 rfl ?_
  refine x_getR (q := 27) hG fg_X8_28 dX8_holdsFailure_1 ?_
  refine x_aload_n dX8_holdsFailure_4 rfl 0 rfl ?_
  refine x_getIv hG fg_X8_41 dX8_holdsFailure_5 rfl ?_
  refine x_ialdv hG rfl dX8_holdsFailure_8 h.1 rfl ?_
  replace h := h.2
  refine x_if_eq dX8_holdsFailure_9 16 (by decide) (fun c => ?_) (fun c => ?_)
  · replace h := h.1 c
    refine x_iconst (v := (0 : Int32)) dX8_holdsFailure_16 rfl ?_
    exact x_zret rfl bz_0 dX8_holdsFailure_17 ⟨_, rfl, h⟩
  · replace h := h.2 c
    refine x_iconst (v := (1 : Int32)) dX8_holdsFailure_12 rfl ?_
    refine x_goto dX8_holdsFailure_13 17 (by decide) ?_
    exact x_zret rfl bz_1 dX8_holdsFailure_17 ⟨_, rfl, h⟩
theorem ct_X8_holdsFailure {G : Gx} (hG : gLy G = LyC) {σ : Sg} {Q : Int32 → Sg → Prop} (h : wX8_holdsFailure σ Q) : CT G mX8_holdsFailure 1 [.ref (gad G 21)] σ (qi Q) := ct_of rfl (Nat.le_of_ble_eq_true rfl) rfl (xX8_holdsFailure hG h)
/-! X8_letGo letGo -/
def wX8_letGo (σ : Sg) (Q : Sg → Prop) : Prop :=
  vp_in (sI σ 21 9) 200 ∧
  vp_in (sI σ 21 9) 200 ∧
  vp_in (sI σ 21 9) 200 ∧
  wX1_goOn σ (sI σ 27 ((sI σ 21 9)).toNatClampNeg) (sI σ 28 ((sI σ 21 9)).toNatClampNeg) (sI σ 29 ((sI σ 21 9)).toNatClampNeg) (fun σ1 =>
  Q σ1
  )
set_option maxRecDepth 100000 in
set_option maxHeartbeats 4000000 in
theorem xX8_letGo {G : Gx} (hG : gLy G = LyC) {σ : Sg} {Q : Sg → Prop} (h : wX8_letGo σ Q) : X G mX8_letGo 2 0 [(0, .ref (gad G 21)), (1, .ref (gad G 10))] [] σ (qv Q) := by
  unfold wX8_letGo at h
  refine x_aload_n dX8_letGo_0 rfl 1 rfl ?_
  refine x_aload_n dX8_letGo_1 rfl 0 rfl ?_
  refine x_getR (q := 27) hG fg_X8_28 dX8_letGo_2 ?_
  refine x_aload_n dX8_letGo_5 rfl 0 rfl ?_
  refine x_getIv hG fg_X8_41 dX8_letGo_6 rfl ?_
  refine x_ialdv hG rfl dX8_letGo_9 h.1 rfl ?_
  replace h := h.2
  refine x_aload_n dX8_letGo_10 rfl 0 rfl ?_
  refine x_getR (q := 28) hG fg_X8_31 dX8_letGo_11 ?_
  refine x_aload_n dX8_letGo_14 rfl 0 rfl ?_
  refine x_getIv hG fg_X8_41 dX8_letGo_15 rfl ?_
  refine x_ialdv hG rfl dX8_letGo_18 h.1 rfl ?_
  replace h := h.2
  refine x_aload_n dX8_letGo_19 rfl 0 rfl ?_
  refine x_getR (q := 29) hG fg_X8_34 dX8_letGo_20 ?_
  refine x_aload_n dX8_letGo_23 rfl 0 rfl ?_
  refine x_getIv hG fg_X8_41 dX8_letGo_24 rfl ?_
  refine x_ialdv hG rfl dX8_letGo_27 h.1 rfl ?_
  replace h := h.2
  refine x_callVv [_, _, _] hG mv_X1_goOn lk_X8_59 rfl rfl rfl ⟨by decide, by decide⟩ rfl (Nat.le_of_ble_eq_true rfl) dX8_letGo_28 (ct_X1_goOn hG h) (fun σ1 h => ?_)
  exact x_vret rfl dX8_letGo_31 ⟨rfl, h⟩
theorem ct_X8_letGo {G : Gx} (hG : gLy G = LyC) {σ : Sg} {Q : Sg → Prop} (h : wX8_letGo σ Q) : CT G mX8_letGo 2 [.ref (gad G 21), .ref (gad G 10)] σ (qv Q) := ct_of rfl (Nat.le_of_ble_eq_true rfl) rfl (xX8_letGo hG h)
