/-! X6_restart restart -/
def wX6_restart (σ : Sg) (l1 : Int32) (Q : Sg → Prop) : Prop :=
  wX7_restart σ (fun σ1 =>
  wX1_restart σ1 l1 (fun σ2 =>
  let σ3 := wI σ2 5 4 (0 : Int32)
  wX3_restart σ3 (fun σ4 =>
  wX5_restart σ4 (fun σ5 =>
  wX8_restart σ5 (fun σ6 =>
  let σ7 := wI σ6 5 8 (0 : Int32)
  Q σ7
  )
  )
  )
  )
  )
set_option maxRecDepth 100000 in
set_option maxHeartbeats 4000000 in
theorem xX6_restart {G : Gx} (hG : gLy G = LyC) {σ : Sg} {l1 : Int32} {Q : Sg → Prop} (h : wX6_restart σ l1 Q) : X G mX6_restart 4 0 [(0, .ref (gad G 5)), (1, .int l1)] [] σ (qv Q) := by
  unfold wX6_restart at h
  refine x_aload_n dX6_restart_0 rfl 0 rfl ?_
  refine x_getR (q := 6) hG fg_X6_16 dX6_restart_1 ?_
  refine x_callVv [] hG mv_X7_restart lk_X6_59 rfl rfl rfl ⟨by decide, by decide⟩ rfl (Nat.le_of_ble_eq_true rfl) dX6_restart_4 (ct_X7_restart hG h) (fun σ1 h => ?_)
  refine x_aload_n dX6_restart_7 rfl 0 rfl ?_
  refine x_getR (q := 10) hG fg_X6_23 dX6_restart_8 ?_
  refine x_iload_n dX6_restart_11 rfl 1 rfl ?_
  refine x_callVv [_] hG mv_X1_restart lk_X6_62 rfl rfl rfl ⟨by decide, by decide⟩ rfl (Nat.le_of_ble_eq_true rfl) dX6_restart_12 (ct_X1_restart hG h) (fun σ2 h => ?_)
  refine x_aload_n dX6_restart_15 rfl 0 rfl ?_
  refine x_iconst (v := (0 : Int32)) dX6_restart_16 rfl ?_
  refine x_putI hG fp_X6_31 dX6_restart_17 ?_
  refine x_aload_n dX6_restart_20 rfl 0 rfl ?_
  refine x_getR (q := 12) hG fg_X6_38 dX6_restart_21 ?_
  refine x_callVv [] hG mv_X3_restart lk_X6_65 rfl rfl rfl ⟨by decide, by decide⟩ rfl (Nat.le_of_ble_eq_true rfl) dX6_restart_24 (ct_X3_restart hG h) (fun σ4 h => ?_)
  refine x_aload_n dX6_restart_27 rfl 0 rfl ?_
  refine x_getR (q := 14) hG fg_X6_45 dX6_restart_28 ?_
  refine x_callVv [] hG mv_X5_restart lk_X6_66 rfl rfl rfl ⟨by decide, by decide⟩ rfl (Nat.le_of_ble_eq_true rfl) dX6_restart_31 (ct_X5_restart hG h) (fun σ5 h => ?_)
  refine x_aload_n dX6_restart_34 rfl 0 rfl ?_
  refine x_getR (q := 21) hG fg_X6_52 dX6_restart_35 ?_
  refine x_callVv [] hG mv_X8_restart lk_X6_67 rfl rfl rfl ⟨by decide, by decide⟩ rfl (Nat.le_of_ble_eq_true rfl) dX6_restart_38 (ct_X8_restart hG h) (fun σ6 h => ?_)
  refine x_aload_n dX6_restart_41 rfl 0 rfl ?_
  refine x_iconst (v := (0 : Int32)) dX6_restart_42 rfl ?_
  refine x_putI hG fp_X6_56 dX6_restart_43 ?_
  exact x_vret rfl dX6_restart_46 ⟨rfl, h⟩
theorem ct_X6_restart {G : Gx} (hG : gLy G = LyC) {σ : Sg} {l1 : Int32} {Q : Sg → Prop} (h : wX6_restart σ l1 Q) : CT G mX6_restart 4 [.ref (gad G 5), .int l1] σ (qv Q) := ct_of rfl (Nat.le_of_ble_eq_true rfl) rfl (xX6_restart hG h)
/-! X6_begin begin -/
def wX6_begin (σ : Sg) (l1 : Int32) (l2 : Int32) (Q : Sg → Prop) : Prop :=
  wX1_takesStep σ l1 (fun r2 σ1 =>
  (r2 = 0 → (
    Q σ1
  )) ∧ (¬ r2 = 0 → (
    wX7_changesSoFar σ1 (fun r4 σ3 =>
    wX8_push σ3 l1 l2 r4 (fun σ5 =>
    Q σ5
    )
    )
  ))
  )
set_option maxRecDepth 100000 in
set_option maxHeartbeats 4000000 in
theorem xX6_begin {G : Gx} (hG : gLy G = LyC) {σ : Sg} {l1 : Int32} {l2 : Int32} {Q : Sg → Prop} (h : wX6_begin σ l1 l2 Q) : X G mX6_begin 2 0 [(0, .ref (gad G 5)), (1, .int l1), (2, .int l2)] [] σ (qv Q) := by
  unfold wX6_begin at h
  refine x_aload_n dX6_begin_0 rfl 0 rfl ?_
  refine x_getR (q := 10) hG fg_X6_23 dX6_begin_1 ?_
  refine x_iload_n dX6_begin_4 rfl 1 rfl ?_
  refine x_callVi [_] hG mv_X1_takesStep lk_X6_94 rfl rfl rfl ⟨by decide, by decide⟩ rfl (Nat.le_of_ble_eq_true rfl) dX6_begin_5 (ct_X1_takesStep hG h) (fun r2 σ1 h => ?_)
  refine x_if_eq dX6_begin_8 27 (by decide) (fun c => ?_) (fun c => ?_)
  · replace h := h.1 c
    exact x_vret rfl dX6_begin_27 ⟨rfl, h⟩
  · replace h := h.2 c
    refine x_aload_n dX6_begin_11 rfl 0 rfl ?_
    refine x_getR (q := 21) hG fg_X6_52 dX6_begin_12 ?_
    refine x_iload_n dX6_begin_15 rfl 1 rfl ?_
    refine x_iload_n dX6_begin_16 rfl 2 rfl ?_
    refine x_aload_n dX6_begin_17 rfl 0 rfl ?_
    refine x_getR (q := 6) hG fg_X6_16 dX6_begin_18 ?_
    refine x_callVi [] hG mv_X7_changesSoFar lk_X6_98 rfl rfl rfl ⟨by decide, by decide⟩ rfl (Nat.le_of_ble_eq_true rfl) dX6_begin_21 (ct_X7_changesSoFar hG h) (fun r4 σ3 h => ?_)
    refine x_callVv [_, _, _] hG mv_X8_push lk_X6_101 rfl rfl rfl ⟨by decide, by decide⟩ rfl (Nat.le_of_ble_eq_true rfl) dX6_begin_24 (ct_X8_push hG h) (fun σ5 h => ?_)
    exact x_vret rfl dX6_begin_27 ⟨rfl, h⟩
theorem ct_X6_begin {G : Gx} (hG : gLy G = LyC) {σ : Sg} {l1 : Int32} {l2 : Int32} {Q : Sg → Prop} (h : wX6_begin σ l1 l2 Q) : CT G mX6_begin 2 [.ref (gad G 5), .int l1, .int l2] σ (qv Q) := ct_of rfl (Nat.le_of_ble_eq_true rfl) rfl (xX6_begin hG h)
/-! X6_isCaught isCaught -/
def wX6_isCaught_31 (σ : Sg) (Q : Int32 → Sg → Prop) : Prop :=
  Q (1 : Int32) σ
set_option maxRecDepth 100000 in
set_option maxHeartbeats 4000000 in
theorem xX6_isCaught_31 {G : Gx} (hG : gLy G = LyC) {σ : Sg} {Q : Int32 → Sg → Prop} (h : wX6_isCaught_31 σ Q) : X G mX6_isCaught 3 31 [] [] σ (qi Q) := by
  unfold wX6_isCaught_31 at h
  refine x_iconst (v := (1 : Int32)) dX6_isCaught_31 rfl ?_
  refine x_goto dX6_isCaught_32 36 (by decide) ?_
  exact x_zret rfl bz_1 dX6_isCaught_36 ⟨_, rfl, h⟩
def wX6_isCaught (σ : Sg) (Q : Int32 → Sg → Prop) : Prop :=
  wX8_actOnTop σ (fun r2 σ1 =>
  wX0_given σ1 r2 (2 : Int32) (fun r4 σ3 =>
  (r4 = 0 → (
    wX6_isCaught_31 σ3 Q
  )) ∧ (¬ r4 = 0 → (
    (r4 = (sI σ3 10 3) → (
      wX6_isCaught_31 σ3 Q
    )) ∧ (¬ r4 = (sI σ3 10 3) → (
      Q (0 : Int32) σ3
    ))
  ))
  )
  )
set_option maxRecDepth 100000 in
set_option maxHeartbeats 4000000 in
theorem xX6_isCaught {G : Gx} (hG : gLy G = LyC) {σ : Sg} {Q : Int32 → Sg → Prop} (h : wX6_isCaught σ Q) : X G mX6_isCaught 3 0 [(0, .ref (gad G 5))] [] σ (qi Q) := by
  unfold wX6_isCaught at h
  refine x_aload_n dX6_isCaught_0 rfl 0 rfl ?_
  refine x_getR (q := 1) hG fg_X6_7 dX6_isCaught_1 ?_
  refine x_aload_n dX6_isCaught_4 rfl 0 rfl ?_
  refine x_getR (q := 21) hG fg_X6_52 dX6_isCaught_5 ?_
  refine x_callVi [] hG mv_X8_actOnTop lk_X6_105 rfl rfl rfl ⟨by decide, by decide⟩ rfl (Nat.le_of_ble_eq_true rfl) dX6_isCaught_8 (ct_X8_actOnTop hG h) (fun r2 σ1 h => ?_)
  refine x_iconst (v := (2 : Int32)) dX6_isCaught_11 rfl ?_
  refine x_callVi [_, _] hG mv_X0_given lk_X6_144 rfl rfl rfl ⟨by decide, by decide⟩ rfl (Nat.le_of_ble_eq_true rfl) dX6_isCaught_12 (ct_X0_given hG h) (fun r4 σ3 h => ?_)
  refine x_istore_n dX6_isCaught_15 rfl (Nat.le_of_ble_eq_true rfl) (lv' := [(1, _), (0, _)]) rfl ?_
  refine x_iload_n dX6_isCaught_16 rfl 0 rfl ?_
  refine x_if_eq dX6_isCaught_17 31 (by decide) (fun c => ?_) (fun c => ?_)
  · replace h := h.1 c
    exact x_sub [] rfl (xX6_isCaught_31 hG h)
  · replace h := h.2 c
    refine x_iload_n dX6_isCaught_20 rfl 0 rfl ?_
    refine x_aload_n dX6_isCaught_21 rfl 1 rfl ?_
    refine x_getR (q := 10) hG fg_X6_23 dX6_isCaught_22 ?_
    refine x_getIv hG fg_X6_82 dX6_isCaught_25 rfl ?_
    refine x_icmp_ne dX6_isCaught_28 35 (by decide) (fun c => ?_) (fun c => ?_)
    · replace h := h.1 c
      exact x_sub [] rfl (xX6_isCaught_31 hG h)
    · replace h := h.2 c
      refine x_iconst (v := (0 : Int32)) dX6_isCaught_35 rfl ?_
      exact x_zret rfl bz_0 dX6_isCaught_36 ⟨_, rfl, h⟩
theorem ct_X6_isCaught {G : Gx} (hG : gLy G = LyC) {σ : Sg} {Q : Int32 → Sg → Prop} (h : wX6_isCaught σ Q) : CT G mX6_isCaught 3 [.ref (gad G 5)] σ (qi Q) := ct_of rfl (Nat.le_of_ble_eq_true rfl) rfl (xX6_isCaught hG h)
/-! X6_beginPart beginPart -/
def wX6_beginPart (σ : Sg) (l1 : Int32) (Q : Sg → Prop) : Prop :=
  wX8_actOnTop σ (fun r2 σ1 =>
  wX0_part σ1 r2 l1 (fun r4 σ3 =>
  wX8_frame σ3 (fun r6 σ5 =>
  wX6_begin σ5 r4 r6 (fun σ7 =>
  Q σ7
  )
  )
  )
  )
set_option maxRecDepth 100000 in
set_option maxHeartbeats 4000000 in
theorem xX6_beginPart {G : Gx} (hG : gLy G = LyC) {σ : Sg} {l1 : Int32} {Q : Sg → Prop} (h : wX6_beginPart σ l1 Q) : X G mX6_beginPart 3 0 [(0, .ref (gad G 5)), (1, .int l1)] [] σ (qv Q) := by
  unfold wX6_beginPart at h
  refine x_aload_n dX6_beginPart_0 rfl 0 rfl ?_
  refine x_aload_n dX6_beginPart_1 rfl 0 rfl ?_
  refine x_getR (q := 1) hG fg_X6_7 dX6_beginPart_2 ?_
  refine x_aload_n dX6_beginPart_5 rfl 0 rfl ?_
  refine x_getR (q := 21) hG fg_X6_52 dX6_beginPart_6 ?_
  refine x_callVi [] hG mv_X8_actOnTop lk_X6_105 rfl rfl rfl ⟨by decide, by decide⟩ rfl (Nat.le_of_ble_eq_true rfl) dX6_beginPart_9 (ct_X8_actOnTop hG h) (fun r2 σ1 h => ?_)
  refine x_iload_n dX6_beginPart_12 rfl 1 rfl ?_
  refine x_callVi [_, _] hG mv_X0_part lk_X6_108 rfl rfl rfl ⟨by decide, by decide⟩ rfl (Nat.le_of_ble_eq_true rfl) dX6_beginPart_13 (ct_X0_part hG h) (fun r4 σ3 h => ?_)
  refine x_aload_n dX6_beginPart_16 rfl 0 rfl ?_
  refine x_getR (q := 21) hG fg_X6_52 dX6_beginPart_17 ?_
  refine x_callVi [] hG mv_X8_frame lk_X6_114 rfl rfl rfl ⟨by decide, by decide⟩ rfl (Nat.le_of_ble_eq_true rfl) dX6_beginPart_20 (ct_X8_frame hG h) (fun r6 σ5 h => ?_)
  refine x_callVv [_, _] hG mv_X6_begin lk_X6_73 rfl rfl rfl ⟨by decide, by decide⟩ rfl (Nat.le_of_ble_eq_true rfl) dX6_beginPart_23 (ct_X6_begin hG h) (fun σ7 h => ?_)
  exact x_vret rfl dX6_beginPart_26 ⟨rfl, h⟩
theorem ct_X6_beginPart {G : Gx} (hG : gLy G = LyC) {σ : Sg} {l1 : Int32} {Q : Sg → Prop} (h : wX6_beginPart σ l1 Q) : CT G mX6_beginPart 3 [.ref (gad G 5), .int l1] σ (qv Q) := ct_of rfl (Nat.le_of_ble_eq_true rfl) rfl (xX6_beginPart hG h)
/-! X6_takeUp takeUp -/
def wX6_takeUp (σ : Sg) (Q : Sg → Prop) : Prop :=
  wX8_frame σ (fun r2 σ1 =>
  wX9_whole σ1 (sI σ1 10 4) (fun r4 σ3 =>
  wX3_write σ3 r2 (7 : Int32) r4 (fun σ5 =>
  wX1_settle σ5 (fun σ6 =>
  wX8_setStage σ6 (1 : Int32) (fun σ7 =>
  wX6_beginPart σ7 (1 : Int32) (fun σ8 =>
  Q σ8
  )
  )
  )
  )
  )
  )
set_option maxRecDepth 100000 in
set_option maxHeartbeats 4000000 in
theorem xX6_takeUp {G : Gx} (hG : gLy G = LyC) {σ : Sg} {Q : Sg → Prop} (h : wX6_takeUp σ Q) : X G mX6_takeUp 4 0 [(0, .ref (gad G 5))] [] σ (qv Q) := by
  unfold wX6_takeUp at h
  refine x_aload_n dX6_takeUp_0 rfl 0 rfl ?_
  refine x_getR (q := 12) hG fg_X6_38 dX6_takeUp_1 ?_
  refine x_aload_n dX6_takeUp_4 rfl 0 rfl ?_
  refine x_getR (q := 21) hG fg_X6_52 dX6_takeUp_5 ?_
  refine x_callVi [] hG mv_X8_frame lk_X6_114 rfl rfl rfl ⟨by decide, by decide⟩ rfl (Nat.le_of_ble_eq_true rfl) dX6_takeUp_8 (ct_X8_frame hG h) (fun r2 σ1 h => ?_)
  refine x_bipush (v := (7 : Int32)) dX6_takeUp_11 rfl ?_
  refine x_aload_n dX6_takeUp_13 rfl 0 rfl ?_
  refine x_getR (q := 10) hG fg_X6_23 dX6_takeUp_14 ?_
  refine x_getIv hG fg_X6_331 dX6_takeUp_17 rfl ?_
  refine x_callSl [_] ms_X9_whole lk_X6_275 rfl ⟨by decide, by decide⟩ rfl (Nat.le_of_ble_eq_true rfl) dX6_takeUp_20 (ct_X9_whole hG h) (fun r4 σ3 h => ?_)
  refine x_callVv [_, _, _] hG mv_X3_write lk_X6_204 rfl rfl rfl ⟨by decide, by decide⟩ rfl (Nat.le_of_ble_eq_true rfl) dX6_takeUp_23 (ct_X3_write hG h) (fun σ5 h => ?_)
  refine x_aload_n dX6_takeUp_26 rfl 0 rfl ?_
  refine x_getR (q := 10) hG fg_X6_23 dX6_takeUp_27 ?_
  refine x_callVv [] hG mv_X1_settle lk_X6_319 rfl rfl rfl ⟨by decide, by decide⟩ rfl (Nat.le_of_ble_eq_true rfl) dX6_takeUp_30 (ct_X1_settle hG h) (fun σ6 h => ?_)
  refine x_aload_n dX6_takeUp_33 rfl 0 rfl ?_
  refine x_getR (q := 21) hG fg_X6_52 dX6_takeUp_34 ?_
  refine x_iconst (v := (1 : Int32)) dX6_takeUp_37 rfl ?_
  refine x_callVv [_] hG mv_X8_setStage lk_X6_220 rfl rfl rfl ⟨by decide, by decide⟩ rfl (Nat.le_of_ble_eq_true rfl) dX6_takeUp_38 (ct_X8_setStage hG h) (fun σ7 h => ?_)
  refine x_aload_n dX6_takeUp_41 rfl 0 rfl ?_
  refine x_iconst (v := (1 : Int32)) dX6_takeUp_42 rfl ?_
  refine x_callVv [_] hG mv_X6_beginPart lk_X6_141 rfl rfl rfl ⟨by decide, by decide⟩ rfl (Nat.le_of_ble_eq_true rfl) dX6_takeUp_43 (ct_X6_beginPart hG h) (fun σ8 h => ?_)
  exact x_vret rfl dX6_takeUp_46 ⟨rfl, h⟩
theorem ct_X6_takeUp {G : Gx} (hG : gLy G = LyC) {σ : Sg} {Q : Sg → Prop} (h : wX6_takeUp σ Q) : CT G mX6_takeUp 4 [.ref (gad G 5)] σ (qv Q) := ct_of rfl (Nat.le_of_ble_eq_true rfl) rfl (xX6_takeUp hG h)
/-! X6_leaveLater leaveLater -/
def wX6_leaveLater (σ : Sg) (l1 : Int32) (Q : Sg → Prop) : Prop :=
  wX1_isFailing σ (fun r2 σ1 =>
  (r2 = 0 → (
    wX5_setState σ1 l1 (0 : Int32) (fun σ3 =>
    Q σ3
    )
  )) ∧ (¬ r2 = 0 → (
    wX5_giveUp σ1 l1 (sI σ1 10 3) (sI σ1 10 4) (fun σ4 =>
    Q σ4
    )
  ))
  )
set_option maxRecDepth 100000 in
set_option maxHeartbeats 4000000 in
theorem xX6_leaveLater {G : Gx} (hG : gLy G = LyC) {σ : Sg} {l1 : Int32} {Q : Sg → Prop} (h : wX6_leaveLater σ l1 Q) : X G mX6_leaveLater 3 0 [(0, .ref (gad G 5)), (1, .int l1)] [] σ (qv Q) := by
  unfold wX6_leaveLater at h
  refine x_aload_n dX6_leaveLater_0 rfl 0 rfl ?_
  refine x_getR (q := 10) hG fg_X6_23 dX6_leaveLater_1 ?_
  refine x_callVi [] hG mv_X1_isFailing lk_X6_307 rfl rfl rfl ⟨by decide, by decide⟩ rfl (Nat.le_of_ble_eq_true rfl) dX6_leaveLater_4 (ct_X1_isFailing hG h) (fun r2 σ1 h => ?_)
  refine x_if_eq dX6_leaveLater_7 35 (by decide) (fun c => ?_) (fun c => ?_)
  · replace h := h.1 c
    refine x_aload_n dX6_leaveLater_35 rfl 0 rfl ?_
    refine x_getR (q := 14) hG fg_X6_45 dX6_leaveLater_36 ?_
    refine x_iload_n dX6_leaveLater_39 rfl 1 rfl ?_
    refine x_iconst (v := (0 : Int32)) dX6_leaveLater_40 rfl ?_
    refine x_callVv [_, _] hG mv_X5_setState lk_X6_252 rfl rfl rfl ⟨by decide, by decide⟩ rfl (Nat.le_of_ble_eq_true rfl) dX6_leaveLater_41 (ct_X5_setState hG h) (fun σ3 h => ?_)
    exact x_vret rfl dX6_leaveLater_44 ⟨rfl, h⟩
  · replace h := h.2 c
    refine x_aload_n dX6_leaveLater_10 rfl 0 rfl ?_
    refine x_getR (q := 14) hG fg_X6_45 dX6_leaveLater_11 ?_
    refine x_iload_n dX6_leaveLater_14 rfl 1 rfl ?_
    refine x_aload_n dX6_leaveLater_15 rfl 0 rfl ?_
    refine x_getR (q := 10) hG fg_X6_23 dX6_leaveLater_16 ?_
    refine x_getIv hG fg_X6_82 dX6_leaveLater_19 rfl ?_
    refine x_aload_n dX6_leaveLater_22 rfl 0 rfl ?_
    refine x_getR (q := 10) hG fg_X6_23 dX6_leaveLater_23 ?_
    refine x_getIv hG fg_X6_331 dX6_leaveLater_26 rfl ?_
    refine x_callVv [_, _, _] hG mv_X5_giveUp lk_X6_334 rfl rfl rfl ⟨by decide, by decide⟩ rfl (Nat.le_of_ble_eq_true rfl) dX6_leaveLater_29 (ct_X5_giveUp hG h) (fun σ4 h => ?_)
    refine x_goto dX6_leaveLater_32 44 (by decide) ?_
    exact x_vret rfl dX6_leaveLater_44 ⟨rfl, h⟩
theorem ct_X6_leaveLater {G : Gx} (hG : gLy G = LyC) {σ : Sg} {l1 : Int32} {Q : Sg → Prop} (h : wX6_leaveLater σ l1 Q) : CT G mX6_leaveLater 3 [.ref (gad G 5), .int l1] σ (qv Q) := ct_of rfl (Nat.le_of_ble_eq_true rfl) rfl (xX6_leaveLater hG h)
/-! X6_leave leave -/
def wX6_leave_182 (σ : Sg) (Q : Sg → Prop) : Prop :=
  wX8_pop σ (fun σ1 =>
  Q σ1
  )
set_option maxRecDepth 100000 in
set_option maxHeartbeats 4000000 in
theorem xX6_leave_182 {G : Gx} (hG : gLy G = LyC) {σ : Sg} {Q : Sg → Prop} (h : wX6_leave_182 σ Q) : X G mX6_leave 5 182 [(0, .ref (gad G 5))] [] σ (qv Q) := by
  unfold wX6_leave_182 at h
  refine x_aload_n dX6_leave_182 rfl 0 rfl ?_
  refine x_getR (q := 21) hG fg_X6_52 dX6_leave_183 ?_
  refine x_callVv [] hG mv_X8_pop lk_X6_117 rfl rfl rfl ⟨by decide, by decide⟩ rfl (Nat.le_of_ble_eq_true rfl) dX6_leave_186 (ct_X8_pop hG h) (fun σ1 h => ?_)
  exact x_vret rfl dX6_leave_189 ⟨rfl, h⟩
def wX6_leave_162 (σ : Sg) (l1 : Int32) (Q : Sg → Prop) : Prop :=
  (l1 = (29 : Int32) → (
    wX8_mark σ (fun r2 σ1 =>
    wX7_undoBackTo σ1 r2 (fun σ3 =>
    wX6_leave_182 σ3 Q
    )
    )
  )) ∧ (¬ l1 = (29 : Int32) → (
    wX6_leave_182 σ Q
  ))
set_option maxRecDepth 100000 in
set_option maxHeartbeats 4000000 in
theorem xX6_leave_162 {G : Gx} (hG : gLy G = LyC) {σ : Sg} {l1 : Int32} {Q : Sg → Prop} (h : wX6_leave_162 σ l1 Q) : X G mX6_leave 5 162 [(0, .ref (gad G 5)), (1, .int l1)] [] σ (qv Q) := by
  unfold wX6_leave_162 at h
  refine x_iload_n dX6_leave_162 rfl 1 rfl ?_
  refine x_bipush (v := (29 : Int32)) dX6_leave_163 rfl ?_
  refine x_icmp_ne dX6_leave_165 182 (by decide) (fun c => ?_) (fun c => ?_)
  · replace h := h.1 c
    refine x_aload_n dX6_leave_168 rfl 0 rfl ?_
    refine x_getR (q := 6) hG fg_X6_16 dX6_leave_169 ?_
    refine x_aload_n dX6_leave_172 rfl 0 rfl ?_
    refine x_getR (q := 21) hG fg_X6_52 dX6_leave_173 ?_
    refine x_callVi [] hG mv_X8_mark lk_X6_325 rfl rfl rfl ⟨by decide, by decide⟩ rfl (Nat.le_of_ble_eq_true rfl) dX6_leave_176 (ct_X8_mark hG h) (fun r2 σ1 h => ?_)
    refine x_callVv [_] hG mv_X7_undoBackTo lk_X6_328 rfl rfl rfl ⟨by decide, by decide⟩ rfl (Nat.le_of_ble_eq_true rfl) dX6_leave_179 (ct_X7_undoBackTo hG h) (fun σ3 h => ?_)
    exact x_sub [0] rfl (xX6_leave_182 hG h)
  · replace h := h.2 c
    exact x_sub [0] rfl (xX6_leave_182 hG h)
def wX6_leave_134 (σ : Sg) (l1 : Int32) (l2 : Int32) (Q : Sg → Prop) : Prop :=
  (l1 = (28 : Int32) → (
    (l2 = 0 → (
      wX8_value σ (0 : Int32) (fun r2 σ1 =>
      wX9_number σ1 r2 (fun r4 σ3 =>
      wX6_leaveLater σ3 r4 (fun σ5 =>
      wX6_leave_182 σ5 Q
      )
      )
      )
    )) ∧ (¬ l2 = 0 → (
      wX6_leave_162 σ l1 Q
    ))
  )) ∧ (¬ l1 = (28 : Int32) → (
    wX6_leave_162 σ l1 Q
  ))
set_option maxRecDepth 100000 in
set_option maxHeartbeats 4000000 in
theorem xX6_leave_134 {G : Gx} (hG : gLy G = LyC) {σ : Sg} {l1 : Int32} {l2 : Int32} {Q : Sg → Prop} (h : wX6_leave_134 σ l1 l2 Q) : X G mX6_leave 5 134 [(0, .ref (gad G 5)), (1, .int l1), (2, .int l2)] [] σ (qv Q) := by
  unfold wX6_leave_134 at h
  refine x_iload_n dX6_leave_134 rfl 1 rfl ?_
  refine x_bipush (v := (28 : Int32)) dX6_leave_135 rfl ?_
  refine x_icmp_ne dX6_leave_137 162 (by decide) (fun c => ?_) (fun c => ?_)
  · replace h := h.1 c
    refine x_iload_n dX6_leave_140 rfl 2 rfl ?_
    refine x_if_ne dX6_leave_141 162 (by decide) (fun c => ?_) (fun c => ?_)
    · replace h := h.1 c
      refine x_aload_n dX6_leave_144 rfl 0 rfl ?_
      refine x_aload_n dX6_leave_145 rfl 0 rfl ?_
      refine x_getR (q := 21) hG fg_X6_52 dX6_leave_146 ?_
      refine x_iconst (v := (0 : Int32)) dX6_leave_149 rfl ?_
      refine x_callVl [_] hG mv_X8_value lk_X6_150 rfl rfl rfl ⟨by decide, by decide⟩ rfl (Nat.le_of_ble_eq_true rfl) dX6_leave_150 (ct_X8_value hG h) (fun r2 σ1 h => ?_)
      refine x_callSi [_] ms_X9_number lk_X6_166 rfl ⟨by decide, by decide⟩ rfl (Nat.le_of_ble_eq_true rfl) dX6_leave_153 (ct_X9_number hG h) (fun r4 σ3 h => ?_)
      refine x_callVv [_] hG mv_X6_leaveLater lk_X6_322 rfl rfl rfl ⟨by decide, by decide⟩ rfl (Nat.le_of_ble_eq_true rfl) dX6_leave_156 (ct_X6_leaveLater hG h) (fun σ5 h => ?_)
      refine x_goto dX6_leave_159 182 (by decide) ?_
      exact x_sub [0] rfl (xX6_leave_182 hG h)
    · replace h := h.2 c
      exact x_sub [0, 1] rfl (xX6_leave_162 hG h)
  · replace h := h.2 c
    exact x_sub [0, 1] rfl (xX6_leave_162 hG h)
def wX6_leave_111 (σ : Sg) (l1 : Int32) (l2 : Int32) (Q : Sg → Prop) : Prop :=
  (l1 = (25 : Int32) → (
    (l2 = 0 → (
      let σ1 := wI σ 5 8 ((sI σ 5 8) - (1 : Int32))
      wX6_leave_182 σ1 Q
    )) ∧ (¬ l2 = 0 → (
      wX6_leave_134 σ l1 l2 Q
    ))
  )) ∧ (¬ l1 = (25 : Int32) → (
    wX6_leave_134 σ l1 l2 Q
  ))
set_option maxRecDepth 100000 in
set_option maxHeartbeats 4000000 in
theorem xX6_leave_111 {G : Gx} (hG : gLy G = LyC) {σ : Sg} {l1 : Int32} {l2 : Int32} {Q : Sg → Prop} (h : wX6_leave_111 σ l1 l2 Q) : X G mX6_leave 5 111 [(0, .ref (gad G 5)), (1, .int l1), (2, .int l2)] [] σ (qv Q) := by
  unfold wX6_leave_111 at h
  refine x_iload_n dX6_leave_111 rfl 1 rfl ?_
  refine x_bipush (v := (25 : Int32)) dX6_leave_112 rfl ?_
  refine x_icmp_ne dX6_leave_114 134 (by decide) (fun c => ?_) (fun c => ?_)
  · replace h := h.1 c
    refine x_iload_n dX6_leave_117 rfl 2 rfl ?_
    refine x_if_ne dX6_leave_118 134 (by decide) (fun c => ?_) (fun c => ?_)
    · replace h := h.1 c
      refine x_aload_n dX6_leave_121 rfl 0 rfl ?_
      refine x_dup dX6_leave_122 rfl ?_
      refine x_getIv hG fg_X6_56 dX6_leave_123 rfl ?_
      refine x_iconst (v := (1 : Int32)) dX6_leave_126 rfl ?_
      refine x_isub dX6_leave_127 ?_
      refine x_putI hG fp_X6_56 dX6_leave_128 ?_
      refine x_goto dX6_leave_131 182 (by decide) ?_
      exact x_sub [0] rfl (xX6_leave_182 hG h)
    · replace h := h.2 c
      exact x_sub [0, 1, 2] rfl (xX6_leave_134 hG h)
  · replace h := h.2 c
    exact x_sub [0, 1, 2] rfl (xX6_leave_134 hG h)
def wX6_leave_64 (σ : Sg) (l1 : Int32) (l2 : Int32) (Q : Sg → Prop) : Prop :=
  wX1_isFailing σ (fun r2 σ1 =>
  (r2 = 0 → (
    wX6_leave_111 σ1 l1 l2 Q
  )) ∧ (¬ r2 = 0 → (
    (l2 = 0 → (
      wX6_leave_111 σ1 l1 l2 Q
    )) ∧ (¬ l2 = 0 → (
      (l1 = (22 : Int32) → (
        wX8_hold σ1 (fun σ3 =>
        wX8_setStage σ3 (1 : Int32) (fun σ4 =>
        wX1_settle σ4 (fun σ5 =>
        Q σ5
        )
        )
        )
      )) ∧ (¬ l1 = (22 : Int32) → (
        wX6_leave_111 σ1 l1 l2 Q
      ))
    ))
  ))
  )
set_option maxRecDepth 100000 in
set_option maxHeartbeats 4000000 in
theorem xX6_leave_64 {G : Gx} (hG : gLy G = LyC) {σ : Sg} {l1 : Int32} {l2 : Int32} {Q : Sg → Prop} (h : wX6_leave_64 σ l1 l2 Q) : X G mX6_leave 5 64 [(0, .ref (gad G 5)), (1, .int l1), (2, .int l2)] [] σ (qv Q) := by
  unfold wX6_leave_64 at h
  refine x_aload_n dX6_leave_64 rfl 0 rfl ?_
  refine x_getR (q := 10) hG fg_X6_23 dX6_leave_65 ?_
  refine x_callVi [] hG mv_X1_isFailing lk_X6_307 rfl rfl rfl ⟨by decide, by decide⟩ rfl (Nat.le_of_ble_eq_true rfl) dX6_leave_68 (ct_X1_isFailing hG h) (fun r2 σ1 h => ?_)
  refine x_if_eq dX6_leave_71 111 (by decide) (fun c => ?_) (fun c => ?_)
  · replace h := h.1 c
    exact x_sub [0, 1, 2] rfl (xX6_leave_111 hG h)
  · replace h := h.2 c
    refine x_iload_n dX6_leave_74 rfl 2 rfl ?_
    refine x_if_eq dX6_leave_75 111 (by decide) (fun c => ?_) (fun c => ?_)
    · replace h := h.1 c
      exact x_sub [0, 1, 2] rfl (xX6_leave_111 hG h)
    · replace h := h.2 c
      refine x_iload_n dX6_leave_78 rfl 1 rfl ?_
      refine x_bipush (v := (22 : Int32)) dX6_leave_79 rfl ?_
      refine x_icmp_ne dX6_leave_81 111 (by decide) (fun c => ?_) (fun c => ?_)
      · replace h := h.1 c
        refine x_aload_n dX6_leave_84 rfl 0 rfl ?_
        refine x_getR (q := 21) hG fg_X6_52 dX6_leave_85 ?_
        refine x_aload_n dX6_leave_88 rfl 0 rfl ?_
        refine x_getR (q := 10) hG fg_X6_23 dX6_leave_89 ?_
        refine x_callVv [_] hG mv_X8_hold lk_X6_316 rfl rfl rfl ⟨by decide, by decide⟩ rfl (Nat.le_of_ble_eq_true rfl) dX6_leave_92 (ct_X8_hold hG h) (fun σ3 h => ?_)
        refine x_aload_n dX6_leave_95 rfl 0 rfl ?_
        refine x_getR (q := 21) hG fg_X6_52 dX6_leave_96 ?_
        refine x_iconst (v := (1 : Int32)) dX6_leave_99 rfl ?_
        refine x_callVv [_] hG mv_X8_setStage lk_X6_220 rfl rfl rfl ⟨by decide, by decide⟩ rfl (Nat.le_of_ble_eq_true rfl) dX6_leave_100 (ct_X8_setStage hG h) (fun σ4 h => ?_)
        refine x_aload_n dX6_leave_103 rfl 0 rfl ?_
        refine x_getR (q := 10) hG fg_X6_23 dX6_leave_104 ?_
        refine x_callVv [] hG mv_X1_settle lk_X6_319 rfl rfl rfl ⟨by decide, by decide⟩ rfl (Nat.le_of_ble_eq_true rfl) dX6_leave_107 (ct_X1_settle hG h) (fun σ5 h => ?_)
        exact x_vret rfl dX6_leave_110 ⟨rfl, h⟩
      · replace h := h.2 c
        exact x_sub [0, 1, 2] rfl (xX6_leave_111 hG h)
def wX6_leave_31 (σ : Sg) (l1 : Int32) (s0 : Int32) (Q : Sg → Prop) : Prop :=
  wX1_isFailing σ (fun r2 σ1 =>
  (r2 = 0 → (
    wX6_leave_64 σ1 l1 s0 Q
  )) ∧ (¬ r2 = 0 → (
    (s0 = 0 → (
      wX6_leave_64 σ1 l1 s0 Q
    )) ∧ (¬ s0 = 0 → (
      (l1 = (21 : Int32) → (
        wX6_isCaught σ1 (fun r4 σ3 =>
        (r4 = 0 → (
          wX6_leave_64 σ3 l1 s0 Q
        )) ∧ (¬ r4 = 0 → (
          wX6_takeUp σ3 (fun σ5 =>
          Q σ5
          )
        ))
        )
      )) ∧ (¬ l1 = (21 : Int32) → (
        wX6_leave_64 σ1 l1 s0 Q
      ))
    ))
  ))
  )
set_option maxRecDepth 100000 in
set_option maxHeartbeats 4000000 in
theorem xX6_leave_31 {G : Gx} (hG : gLy G = LyC) {σ : Sg} {l1 : Int32} {s0 : Int32} {Q : Sg → Prop} (h : wX6_leave_31 σ l1 s0 Q) : X G mX6_leave 5 31 [(0, .ref (gad G 5)), (1, .int l1)] [.int s0] σ (qv Q) := by
  unfold wX6_leave_31 at h
  refine x_istore_n dX6_leave_31 rfl (Nat.le_of_ble_eq_true rfl) (lv' := [(2, _), (0, _), (1, _)]) rfl ?_
  refine x_aload_n dX6_leave_32 rfl 1 rfl ?_
  refine x_getR (q := 10) hG fg_X6_23 dX6_leave_33 ?_
  refine x_callVi [] hG mv_X1_isFailing lk_X6_307 rfl rfl rfl ⟨by decide, by decide⟩ rfl (Nat.le_of_ble_eq_true rfl) dX6_leave_36 (ct_X1_isFailing hG h) (fun r2 σ1 h => ?_)
  refine x_if_eq dX6_leave_39 64 (by decide) (fun c => ?_) (fun c => ?_)
  · replace h := h.1 c
    exact x_sub [1, 2, 0] rfl (xX6_leave_64 hG h)
  · replace h := h.2 c
    refine x_iload_n dX6_leave_42 rfl 0 rfl ?_
    refine x_if_eq dX6_leave_43 64 (by decide) (fun c => ?_) (fun c => ?_)
    · replace h := h.1 c
      exact x_sub [1, 2, 0] rfl (xX6_leave_64 hG h)
    · replace h := h.2 c
      refine x_iload_n dX6_leave_46 rfl 2 rfl ?_
      refine x_bipush (v := (21 : Int32)) dX6_leave_47 rfl ?_
      refine x_icmp_ne dX6_leave_49 64 (by decide) (fun c => ?_) (fun c => ?_)
      · replace h := h.1 c
        refine x_aload_n dX6_leave_52 rfl 1 rfl ?_
        refine x_callVi [] hG mv_X6_isCaught lk_X6_310 rfl rfl rfl ⟨by decide, by decide⟩ rfl (Nat.le_of_ble_eq_true rfl) dX6_leave_53 (ct_X6_isCaught hG h) (fun r4 σ3 h => ?_)
        refine x_if_eq dX6_leave_56 64 (by decide) (fun c => ?_) (fun c => ?_)
        · replace h := h.1 c
          exact x_sub [1, 2, 0] rfl (xX6_leave_64 hG h)
        · replace h := h.2 c
          refine x_aload_n dX6_leave_59 rfl 1 rfl ?_
          refine x_callVv [] hG mv_X6_takeUp lk_X6_313 rfl rfl rfl ⟨by decide, by decide⟩ rfl (Nat.le_of_ble_eq_true rfl) dX6_leave_60 (ct_X6_takeUp hG h) (fun σ5 h => ?_)
          exact x_vret rfl dX6_leave_63 ⟨rfl, h⟩
      · replace h := h.2 c
        exact x_sub [1, 2, 0] rfl (xX6_leave_64 hG h)
def wX6_leave (σ : Sg) (Q : Sg → Prop) : Prop :=
  wX8_actOnTop σ (fun r2 σ1 =>
  wX0_given σ1 r2 (0 : Int32) (fun r4 σ3 =>
  wX8_stage σ3 (fun r6 σ5 =>
  (r6 = 0 → (
    wX6_leave_31 σ5 r4 (1 : Int32) Q
  )) ∧ (¬ r6 = 0 → (
    wX6_leave_31 σ5 r4 (0 : Int32) Q
  ))
  )
  )
  )
set_option maxRecDepth 100000 in
set_option maxHeartbeats 4000000 in
theorem xX6_leave {G : Gx} (hG : gLy G = LyC) {σ : Sg} {Q : Sg → Prop} (h : wX6_leave σ Q) : X G mX6_leave 5 0 [(0, .ref (gad G 5))] [] σ (qv Q) := by
  unfold wX6_leave at h
  refine x_aload_n dX6_leave_0 rfl 0 rfl ?_
  refine x_getR (q := 1) hG fg_X6_7 dX6_leave_1 ?_
  refine x_aload_n dX6_leave_4 rfl 0 rfl ?_
  refine x_getR (q := 21) hG fg_X6_52 dX6_leave_5 ?_
  refine x_callVi [] hG mv_X8_actOnTop lk_X6_105 rfl rfl rfl ⟨by decide, by decide⟩ rfl (Nat.le_of_ble_eq_true rfl) dX6_leave_8 (ct_X8_actOnTop hG h) (fun r2 σ1 h => ?_)
  refine x_iconst (v := (0 : Int32)) dX6_leave_11 rfl ?_
  refine x_callVi [_, _] hG mv_X0_given lk_X6_144 rfl rfl rfl ⟨by decide, by decide⟩ rfl (Nat.le_of_ble_eq_true rfl) dX6_leave_12 (ct_X0_given hG h) (fun r4 σ3 h => ?_)
  refine x_istore_n dX6_leave_15 rfl (Nat.le_of_ble_eq_true rfl) (lv' := [(1, _), (0, _)]) rfl ?_
  refine x_aload_n dX6_leave_16 rfl 1 rfl ?_
  refine x_getR (q := 21) hG fg_X6_52 dX6_leave_17 ?_
  refine x_callVi [] hG mv_X8_stage lk_X6_138 rfl rfl rfl ⟨by decide, by decide⟩ rfl (Nat.le_of_ble_eq_true rfl) dX6_leave_20 (ct_X8_stage hG h) (fun r6 σ5 h => ?_)
  refine x_if_ne dX6_leave_23 30 (by decide) (fun c => ?_) (fun c => ?_)
  · replace h := h.1 c
    refine x_iconst (v := (1 : Int32)) dX6_leave_26 rfl ?_
    refine x_goto dX6_leave_27 31 (by decide) ?_
    exact x_sub [1, 0] rfl (xX6_leave_31 hG h)
  · replace h := h.2 c
    refine x_iconst (v := (0 : Int32)) dX6_leave_30 rfl ?_
    exact x_sub [1, 0] rfl (xX6_leave_31 hG h)
theorem ct_X6_leave {G : Gx} (hG : gLy G = LyC) {σ : Sg} {Q : Sg → Prop} (h : wX6_leave σ Q) : CT G mX6_leave 5 [.ref (gad G 5)] σ (qv Q) := ct_of rfl (Nat.le_of_ble_eq_true rfl) rfl (xX6_leave hG h)
/-! X6_endRun endRun -/
def wX6_endRun (σ : Sg) (l1 : Int32) (Q : Sg → Prop) : Prop :=
  wX8_actOnTop σ (fun r2 σ1 =>
  wX8_pop σ1 (fun σ3 =>
  wX1_end σ3 l1 r2 (fun σ4 =>
  Q σ4
  )
  )
  )
set_option maxRecDepth 100000 in
set_option maxHeartbeats 4000000 in
theorem xX6_endRun {G : Gx} (hG : gLy G = LyC) {σ : Sg} {l1 : Int32} {Q : Sg → Prop} (h : wX6_endRun σ l1 Q) : X G mX6_endRun 3 0 [(0, .ref (gad G 5)), (1, .int l1)] [] σ (qv Q) := by
  unfold wX6_endRun at h
  refine x_aload_n dX6_endRun_0 rfl 0 rfl ?_
  refine x_getR (q := 21) hG fg_X6_52 dX6_endRun_1 ?_
  refine x_callVi [] hG mv_X8_actOnTop lk_X6_105 rfl rfl rfl ⟨by decide, by decide⟩ rfl (Nat.le_of_ble_eq_true rfl) dX6_endRun_4 (ct_X8_actOnTop hG h) (fun r2 σ1 h => ?_)
  refine x_istore_n dX6_endRun_7 rfl (Nat.le_of_ble_eq_true rfl) (lv' := [(2, _), (0, _), (1, _)]) rfl ?_
  refine x_aload_n dX6_endRun_8 rfl 1 rfl ?_
  refine x_getR (q := 21) hG fg_X6_52 dX6_endRun_9 ?_
  refine x_callVv [] hG mv_X8_pop lk_X6_117 rfl rfl rfl ⟨by decide, by decide⟩ rfl (Nat.le_of_ble_eq_true rfl) dX6_endRun_12 (ct_X8_pop hG h) (fun σ3 h => ?_)
  refine x_aload_n dX6_endRun_15 rfl 1 rfl ?_
  refine x_getR (q := 10) hG fg_X6_23 dX6_endRun_16 ?_
  refine x_iload_n dX6_endRun_19 rfl 2 rfl ?_
  refine x_iload_n dX6_endRun_20 rfl 0 rfl ?_
  refine x_callVv [_, _] hG mv_X1_end lk_X6_131 rfl rfl rfl ⟨by decide, by decide⟩ rfl (Nat.le_of_ble_eq_true rfl) dX6_endRun_21 (ct_X1_end hG h) (fun σ4 h => ?_)
  exact x_vret rfl dX6_endRun_24 ⟨rfl, h⟩
theorem ct_X6_endRun {G : Gx} (hG : gLy G = LyC) {σ : Sg} {l1 : Int32} {Q : Sg → Prop} (h : wX6_endRun σ l1 Q) : CT G mX6_endRun 3 [.ref (gad G 5), .int l1] σ (qv Q) := ct_of rfl (Nat.le_of_ble_eq_true rfl) rfl (xX6_endRun hG h)
/-! X6_fail fail -/
def wX6_fail (σ : Sg) (l1 : Int32) (l2 : Int32) (Q : Sg → Prop) : Prop :=
  wX8_actOnTop σ (fun r2 σ1 =>
  wX8_pop σ1 (fun σ3 =>
  wX1_arise σ3 l1 l2 r2 (fun σ4 =>
  Q σ4
  )
  )
  )
set_option maxRecDepth 100000 in
set_option maxHeartbeats 4000000 in
theorem xX6_fail {G : Gx} (hG : gLy G = LyC) {σ : Sg} {l1 : Int32} {l2 : Int32} {Q : Sg → Prop} (h : wX6_fail σ l1 l2 Q) : X G mX6_fail 2 0 [(0, .ref (gad G 5)), (1, .int l1), (2, .int l2)] [] σ (qv Q) := by
  unfold wX6_fail at h
  refine x_aload_n dX6_fail_0 rfl 0 rfl ?_
  refine x_getR (q := 21) hG fg_X6_52 dX6_fail_1 ?_
  refine x_callVi [] hG mv_X8_actOnTop lk_X6_105 rfl rfl rfl ⟨by decide, by decide⟩ rfl (Nat.le_of_ble_eq_true rfl) dX6_fail_4 (ct_X8_actOnTop hG h) (fun r2 σ1 h => ?_)
  refine x_istore_n dX6_fail_7 rfl (Nat.le_of_ble_eq_true rfl) (lv' := [(3, _), (0, _), (1, _), (2, _)]) rfl ?_
  refine x_aload_n dX6_fail_8 rfl 1 rfl ?_
  refine x_getR (q := 21) hG fg_X6_52 dX6_fail_9 ?_
  refine x_callVv [] hG mv_X8_pop lk_X6_117 rfl rfl rfl ⟨by decide, by decide⟩ rfl (Nat.le_of_ble_eq_true rfl) dX6_fail_12 (ct_X8_pop hG h) (fun σ3 h => ?_)
  refine x_aload_n dX6_fail_15 rfl 1 rfl ?_
  refine x_getR (q := 10) hG fg_X6_23 dX6_fail_16 ?_
  refine x_iload_n dX6_fail_19 rfl 2 rfl ?_
  refine x_iload_n dX6_fail_20 rfl 3 rfl ?_
  refine x_iload_n dX6_fail_21 rfl 0 rfl ?_
  refine x_callVv [_, _, _] hG mv_X1_arise lk_X6_128 rfl rfl rfl ⟨by decide, by decide⟩ rfl (Nat.le_of_ble_eq_true rfl) dX6_fail_22 (ct_X1_arise hG h) (fun σ4 h => ?_)
  exact x_vret rfl dX6_fail_25 ⟨rfl, h⟩
theorem ct_X6_fail {G : Gx} (hG : gLy G = LyC) {σ : Sg} {l1 : Int32} {l2 : Int32} {Q : Sg → Prop} (h : wX6_fail σ l1 l2 Q) : CT G mX6_fail 2 [.ref (gad G 5), .int l1, .int l2] σ (qv Q) := ct_of rfl (Nat.le_of_ble_eq_true rfl) rfl (xX6_fail hG h)
/-! X6_isStopped isStopped -/
def wX6_isStopped_96 (σ : Sg) (l6 : Int32) (Q : Int32 → Sg → Prop) : Prop :=
  (l6 = 0 → (
    Q (0 : Int32) σ
  )) ∧ (¬ l6 = 0 → (
    Q (1 : Int32) σ
  ))
set_option maxRecDepth 100000 in
set_option maxHeartbeats 4000000 in
theorem xX6_isStopped_96 {G : Gx} (hG : gLy G = LyC) {σ : Sg} {l6 : Int32} {Q : Int32 → Sg → Prop} (h : wX6_isStopped_96 σ l6 Q) : X G mX6_isStopped 5 96 [(6, .int l6)] [] σ (qi Q) := by
  unfold wX6_isStopped_96 at h
  refine x_iload dX6_isStopped_96 0 rfl ?_
  refine x_if_eq dX6_isStopped_98 105 (by decide) (fun c => ?_) (fun c => ?_)
  · replace h := h.1 c
    refine x_iconst (v := (0 : Int32)) dX6_isStopped_105 rfl ?_
    exact x_zret rfl bz_0 dX6_isStopped_106 ⟨_, rfl, h⟩
  · replace h := h.2 c
    refine x_iconst (v := (1 : Int32)) dX6_isStopped_101 rfl ?_
    refine x_goto dX6_isStopped_102 106 (by decide) ?_
    exact x_zret rfl bz_1 dX6_isStopped_106 ⟨_, rfl, h⟩
def wX6_isStopped_93 (σ : Sg) (l6 : Int32) (s1 : Int32) (s2 : Int32) (Q : Int32 → Sg → Prop) : Prop :=
  wX6_fail σ s1 s2 (fun σ1 =>
  wX6_isStopped_96 σ1 l6 Q
  )
set_option maxRecDepth 100000 in
set_option maxHeartbeats 4000000 in
theorem xX6_isStopped_93 {G : Gx} (hG : gLy G = LyC) {σ : Sg} {l6 : Int32} {s1 : Int32} {s2 : Int32} {Q : Int32 → Sg → Prop} (h : wX6_isStopped_93 σ l6 s1 s2 Q) : X G mX6_isStopped 5 93 [(6, .int l6)] [.int s2, .int s1, .ref (gad G 5)] σ (qi Q) := by
  unfold wX6_isStopped_93 at h
  refine x_callVv [_, _] hG mv_X6_fail lk_X6_171 rfl rfl rfl ⟨by decide, by decide⟩ rfl (Nat.le_of_ble_eq_true rfl) dX6_isStopped_93 (ct_X6_fail hG h) (fun σ1 h => ?_)
  exact x_sub [0] rfl (xX6_isStopped_96 hG h)
def wX6_isStopped (σ : Sg) (l1 : Int32) (Q : Int32 → Sg → Prop) : Prop :=
  wX8_value σ (0 : Int32) (fun r2 σ1 =>
  wX8_value σ1 (1 : Int32) (fun r4 σ3 =>
  wX8_value σ3 (2 : Int32) (fun r6 σ5 =>
  wX7_lengthOf σ5 r2 (fun r8 σ7 =>
  wX7_lengthOf σ7 r4 (fun r10 σ9 =>
  wX2_of σ9 l1 r2 r4 r6 r8 r10 (fun r12 σ11 =>
  (r12 = (12 : Int32) → (
    wX6_endRun σ11 r12 (fun σ13 =>
    wX6_isStopped_96 σ13 r12 Q
    )
  )) ∧ (¬ r12 = (12 : Int32) → (
    (r12 = 0 → (
      wX6_isStopped_96 σ11 r12 Q
    )) ∧ (¬ r12 = 0 → (
      (r12 = (7 : Int32) → (
        wX9_number σ11 r2 (fun r15 σ14 =>
        wX6_isStopped_93 σ14 r12 r12 r15 Q
        )
      )) ∧ (¬ r12 = (7 : Int32) → (
        wX6_isStopped_93 σ11 r12 r12 r12 Q
      ))
    ))
  ))
  )
  )
  )
  )
  )
  )
set_option maxRecDepth 100000 in
set_option maxHeartbeats 4000000 in
theorem xX6_isStopped {G : Gx} (hG : gLy G = LyC) {σ : Sg} {l1 : Int32} {Q : Int32 → Sg → Prop} (h : wX6_isStopped σ l1 Q) : X G mX6_isStopped 5 0 [(0, .ref (gad G 5)), (1, .int l1)] [] σ (qi Q) := by
  unfold wX6_isStopped at h
  refine x_aload_n dX6_isStopped_0 rfl 0 rfl ?_
  refine x_getR (q := 21) hG fg_X6_52 dX6_isStopped_1 ?_
  refine x_iconst (v := (0 : Int32)) dX6_isStopped_4 rfl ?_
  refine x_callVl [_] hG mv_X8_value lk_X6_150 rfl rfl rfl ⟨by decide, by decide⟩ rfl (Nat.le_of_ble_eq_true rfl) dX6_isStopped_5 (ct_X8_value hG h) (fun r2 σ1 h => ?_)
  refine x_lstore_n dX6_isStopped_8 rfl (Nat.le_of_ble_eq_true rfl) (lv' := [(2, _), (0, _), (1, _)]) rfl ?_
  refine x_aload_n dX6_isStopped_9 rfl 1 rfl ?_
  refine x_getR (q := 21) hG fg_X6_52 dX6_isStopped_10 ?_
  refine x_iconst (v := (1 : Int32)) dX6_isStopped_13 rfl ?_
  refine x_callVl [_] hG mv_X8_value lk_X6_150 rfl rfl rfl ⟨by decide, by decide⟩ rfl (Nat.le_of_ble_eq_true rfl) dX6_isStopped_14 (ct_X8_value hG h) (fun r4 σ3 h => ?_)
  refine x_lstore dX6_isStopped_17 (Nat.le_of_ble_eq_true rfl) (lv' := [(4, _), (2, _), (0, _), (1, _)]) rfl ?_
  refine x_iload_n dX6_isStopped_19 rfl 3 rfl ?_
  refine x_lload_n dX6_isStopped_20 rfl 1 rfl ?_
  refine x_lload dX6_isStopped_21 0 rfl ?_
  refine x_aload_n dX6_isStopped_23 rfl 2 rfl ?_
  refine x_getR (q := 21) hG fg_X6_52 dX6_isStopped_24 ?_
  refine x_iconst (v := (2 : Int32)) dX6_isStopped_27 rfl ?_
  refine x_callVl [_] hG mv_X8_value lk_X6_150 rfl rfl rfl ⟨by decide, by decide⟩ rfl (Nat.le_of_ble_eq_true rfl) dX6_isStopped_28 (ct_X8_value hG h) (fun r6 σ5 h => ?_)
  refine x_aload_n dX6_isStopped_31 rfl 2 rfl ?_
  refine x_getR (q := 6) hG fg_X6_16 dX6_isStopped_32 ?_
  refine x_lload_n dX6_isStopped_35 rfl 1 rfl ?_
  refine x_callVi [_] hG mv_X7_lengthOf lk_X6_153 rfl rfl rfl ⟨by decide, by decide⟩ rfl (Nat.le_of_ble_eq_true rfl) dX6_isStopped_36 (ct_X7_lengthOf hG h) (fun r8 σ7 h => ?_)
  refine x_aload_n dX6_isStopped_39 rfl 2 rfl ?_
  refine x_getR (q := 6) hG fg_X6_16 dX6_isStopped_40 ?_
  refine x_lload dX6_isStopped_43 0 rfl ?_
  refine x_callVi [_] hG mv_X7_lengthOf lk_X6_153 rfl rfl rfl ⟨by decide, by decide⟩ rfl (Nat.le_of_ble_eq_true rfl) dX6_isStopped_45 (ct_X7_lengthOf hG h) (fun r10 σ9 h => ?_)
  refine x_callSi [_, _, _, _, _, _] ms_X2_of lk_X6_157 rfl ⟨by decide, by decide⟩ rfl (Nat.le_of_ble_eq_true rfl) dX6_isStopped_48 (ct_X2_of hG h) (fun r12 σ11 h => ?_)
  refine x_istore dX6_isStopped_51 (Nat.le_of_ble_eq_true rfl) (lv' := [(6, _), (4, _), (2, _), (0, _), (1, _)]) rfl ?_
  refine x_iload dX6_isStopped_53 0 rfl ?_
  refine x_bipush (v := (12 : Int32)) dX6_isStopped_55 rfl ?_
  refine x_icmp_ne dX6_isStopped_57 69 (by decide) (fun c => ?_) (fun c => ?_)
  · replace h := h.1 c
    refine x_aload_n dX6_isStopped_60 rfl 3 rfl ?_
    refine x_iload dX6_isStopped_61 0 rfl ?_
    refine x_callVv [_] hG mv_X6_endRun lk_X6_163 rfl rfl rfl ⟨by decide, by decide⟩ rfl (Nat.le_of_ble_eq_true rfl) dX6_isStopped_63 (ct_X6_endRun hG h) (fun σ13 h => ?_)
    refine x_goto dX6_isStopped_66 96 (by decide) ?_
    exact x_sub [0] rfl (xX6_isStopped_96 hG h)
  · replace h := h.2 c
    refine x_iload dX6_isStopped_69 0 rfl ?_
    refine x_if_eq dX6_isStopped_71 96 (by decide) (fun c => ?_) (fun c => ?_)
    · replace h := h.1 c
      exact x_sub [0] rfl (xX6_isStopped_96 hG h)
    · replace h := h.2 c
      refine x_aload_n dX6_isStopped_74 rfl 3 rfl ?_
      refine x_iload dX6_isStopped_75 0 rfl ?_
      refine x_iload dX6_isStopped_77 0 rfl ?_
      refine x_bipush (v := (7 : Int32)) dX6_isStopped_79 rfl ?_
      refine x_icmp_ne dX6_isStopped_81 91 (by decide) (fun c => ?_) (fun c => ?_)
      · replace h := h.1 c
        refine x_lload_n dX6_isStopped_84 rfl 2 rfl ?_
        refine x_callSi [_] ms_X9_number lk_X6_166 rfl ⟨by decide, by decide⟩ rfl (Nat.le_of_ble_eq_true rfl) dX6_isStopped_85 (ct_X9_number hG h) (fun r15 σ14 h => ?_)
        refine x_goto dX6_isStopped_88 93 (by decide) ?_
        exact x_sub [0] rfl (xX6_isStopped_93 hG h)
      · replace h := h.2 c
        refine x_iload dX6_isStopped_91 0 rfl ?_
        exact x_sub [0] rfl (xX6_isStopped_93 hG h)
theorem ct_X6_isStopped {G : Gx} (hG : gLy G = LyC) {σ : Sg} {l1 : Int32} {Q : Int32 → Sg → Prop} (h : wX6_isStopped σ l1 Q) : CT G mX6_isStopped 5 [.ref (gad G 5), .int l1] σ (qi Q) := ct_of rfl (Nat.le_of_ble_eq_true rfl) rfl (xX6_isStopped hG h)
/-! X6_comesToWork comesToWork -/
def wX6_comesToWork_68 (σ : Sg) (Q : Int32 → Sg → Prop) : Prop :=
  Q (1 : Int32) σ
set_option maxRecDepth 100000 in
set_option maxHeartbeats 4000000 in
theorem xX6_comesToWork_68 {G : Gx} (hG : gLy G = LyC) {σ : Sg} {Q : Int32 → Sg → Prop} (h : wX6_comesToWork_68 σ Q) : X G mX6_comesToWork 6 68 [] [] σ (qi Q) := by
  unfold wX6_comesToWork_68 at h
  refine x_iconst (v := (1 : Int32)) dX6_comesToWork_68 rfl ?_
  refine x_goto dX6_comesToWork_69 73 (by decide) ?_
  exact x_zret rfl bz_1 dX6_comesToWork_73 ⟨_, rfl, h⟩
def wX6_comesToWork (σ : Sg) (Q : Int32 → Sg → Prop) : Prop :=
  wX8_actOnTop σ (fun r2 σ1 =>
  wX0_partsAhead σ1 r2 (fun r4 σ3 =>
  wX8_stage σ3 (fun r6 σ5 =>
  (r6 < r4 → (
    wX8_stage σ5 (fun r8 σ7 =>
    wX6_beginPart σ7 r8 (fun σ9 =>
    Q (0 : Int32) σ9
    )
    )
  )) ∧ (¬ r6 < r4 → (
    wX8_stage σ5 (fun r11 σ10 =>
    (r4 < r11 → (
      wX6_comesToWork_68 σ10 Q
    )) ∧ (¬ r4 < r11 → (
      wX0_given σ10 r2 (0 : Int32) (fun r13 σ12 =>
      wX6_isStopped σ12 r13 (fun r15 σ14 =>
      (r15 = 0 → (
        wX6_comesToWork_68 σ14 Q
      )) ∧ (¬ r15 = 0 → (
        Q (0 : Int32) σ14
      ))
      )
      )
    ))
    )
  ))
  )
  )
  )
set_option maxRecDepth 100000 in
set_option maxHeartbeats 4000000 in
theorem xX6_comesToWork {G : Gx} (hG : gLy G = LyC) {σ : Sg} {Q : Int32 → Sg → Prop} (h : wX6_comesToWork σ Q) : X G mX6_comesToWork 6 0 [(0, .ref (gad G 5))] [] σ (qi Q) := by
  unfold wX6_comesToWork at h
  refine x_aload_n dX6_comesToWork_0 rfl 0 rfl ?_
  refine x_getR (q := 21) hG fg_X6_52 dX6_comesToWork_1 ?_
  refine x_callVi [] hG mv_X8_actOnTop lk_X6_105 rfl rfl rfl ⟨by decide, by decide⟩ rfl (Nat.le_of_ble_eq_true rfl) dX6_comesToWork_4 (ct_X8_actOnTop hG h) (fun r2 σ1 h => ?_)
  refine x_istore_n dX6_comesToWork_7 rfl (Nat.le_of_ble_eq_true rfl) (lv' := [(1, _), (0, _)]) rfl ?_
  refine x_aload_n dX6_comesToWork_8 rfl 1 rfl ?_
  refine x_getR (q := 1) hG fg_X6_7 dX6_comesToWork_9 ?_
  refine x_iload_n dX6_comesToWork_12 rfl 0 rfl ?_
  refine x_callVi [_] hG mv_X0_partsAhead lk_X6_134 rfl rfl rfl ⟨by decide, by decide⟩ rfl (Nat.le_of_ble_eq_true rfl) dX6_comesToWork_13 (ct_X0_partsAhead hG h) (fun r4 σ3 h => ?_)
  refine x_istore_n dX6_comesToWork_16 rfl (Nat.le_of_ble_eq_true rfl) (lv' := [(2, _), (1, _), (0, _)]) rfl ?_
  refine x_aload_n dX6_comesToWork_17 rfl 2 rfl ?_
  refine x_getR (q := 21) hG fg_X6_52 dX6_comesToWork_18 ?_
  refine x_callVi [] hG mv_X8_stage lk_X6_138 rfl rfl rfl ⟨by decide, by decide⟩ rfl (Nat.le_of_ble_eq_true rfl) dX6_comesToWork_21 (ct_X8_stage hG h) (fun r6 σ5 h => ?_)
  refine x_iload_n dX6_comesToWork_24 rfl 0 rfl ?_
  refine x_icmp_ge dX6_comesToWork_25 41 (by decide) (fun c => ?_) (fun c => ?_)
  · replace h := h.1 c
    refine x_aload_n dX6_comesToWork_28 rfl 2 rfl ?_
    refine x_aload_n dX6_comesToWork_29 rfl 2 rfl ?_
    refine x_getR (q := 21) hG fg_X6_52 dX6_comesToWork_30 ?_
    refine x_callVi [] hG mv_X8_stage lk_X6_138 rfl rfl rfl ⟨by decide, by decide⟩ rfl (Nat.le_of_ble_eq_true rfl) dX6_comesToWork_33 (ct_X8_stage hG h) (fun r8 σ7 h => ?_)
    refine x_callVv [_] hG mv_X6_beginPart lk_X6_141 rfl rfl rfl ⟨by decide, by decide⟩ rfl (Nat.le_of_ble_eq_true rfl) dX6_comesToWork_36 (ct_X6_beginPart hG h) (fun σ9 h => ?_)
    refine x_iconst (v := (0 : Int32)) dX6_comesToWork_39 rfl ?_
    exact x_zret rfl bz_0 dX6_comesToWork_40 ⟨_, rfl, h⟩
  · replace h := h.2 c
    refine x_aload_n dX6_comesToWork_41 rfl 2 rfl ?_
    refine x_getR (q := 21) hG fg_X6_52 dX6_comesToWork_42 ?_
    refine x_callVi [] hG mv_X8_stage lk_X6_138 rfl rfl rfl ⟨by decide, by decide⟩ rfl (Nat.le_of_ble_eq_true rfl) dX6_comesToWork_45 (ct_X8_stage hG h) (fun r11 σ10 h => ?_)
    refine x_iload_n dX6_comesToWork_48 rfl 0 rfl ?_
    refine x_icmp_gt dX6_comesToWork_49 68 (by decide) (fun c => ?_) (fun c => ?_)
    · replace h := h.1 c
      exact x_sub [] rfl (xX6_comesToWork_68 hG h)
    · replace h := h.2 c
      refine x_aload_n dX6_comesToWork_52 rfl 2 rfl ?_
      refine x_aload_n dX6_comesToWork_53 rfl 2 rfl ?_
      refine x_getR (q := 1) hG fg_X6_7 dX6_comesToWork_54 ?_
      refine x_iload_n dX6_comesToWork_57 rfl 1 rfl ?_
      refine x_iconst (v := (0 : Int32)) dX6_comesToWork_58 rfl ?_
      refine x_callVi [_, _] hG mv_X0_given lk_X6_144 rfl rfl rfl ⟨by decide, by decide⟩ rfl (Nat.le_of_ble_eq_true rfl) dX6_comesToWork_59 (ct_X0_given hG h) (fun r13 σ12 h => ?_)
      refine x_callVi [_] hG mv_X6_isStopped lk_X6_147 rfl rfl rfl ⟨by decide, by decide⟩ rfl (Nat.le_of_ble_eq_true rfl) dX6_comesToWork_62 (ct_X6_isStopped hG h) (fun r15 σ14 h => ?_)
      refine x_if_ne dX6_comesToWork_65 72 (by decide) (fun c => ?_) (fun c => ?_)
      · replace h := h.1 c
        exact x_sub [] rfl (xX6_comesToWork_68 hG h)
      · replace h := h.2 c
        refine x_iconst (v := (0 : Int32)) dX6_comesToWork_72 rfl ?_
        exact x_zret rfl bz_0 dX6_comesToWork_73 ⟨_, rfl, h⟩
theorem ct_X6_comesToWork {G : Gx} (hG : gLy G = LyC) {σ : Sg} {Q : Int32 → Sg → Prop} (h : wX6_comesToWork σ Q) : CT G mX6_comesToWork 6 [.ref (gad G 5)] σ (qi Q) := ct_of rfl (Nat.le_of_ble_eq_true rfl) rfl (xX6_comesToWork hG h)
/-! X6_give give -/
def wX6_give (σ : Sg) (l1 : Int64) (Q : Sg → Prop) : Prop :=
  wX8_pop σ (fun σ1 =>
  wX8_isEmpty σ1 (fun r3 σ2 =>
  (r3 = 0 → (
    wX8_take σ2 l1 (fun σ4 =>
    Q σ4
    )
  )) ∧ (¬ r3 = 0 → (
    let σ5 := wL σ2 10 6 l1
    Q σ5
  ))
  )
  )
set_option maxRecDepth 100000 in
set_option maxHeartbeats 4000000 in
theorem xX6_give {G : Gx} (hG : gLy G = LyC) {σ : Sg} {l1 : Int64} {Q : Sg → Prop} (h : wX6_give σ l1 Q) : X G mX6_give 2 0 [(0, .ref (gad G 5)), (1, .long l1)] [] σ (qv Q) := by
  unfold wX6_give at h
  refine x_aload_n dX6_give_0 rfl 0 rfl ?_
  refine x_getR (q := 21) hG fg_X6_52 dX6_give_1 ?_
  refine x_callVv [] hG mv_X8_pop lk_X6_117 rfl rfl rfl ⟨by decide, by decide⟩ rfl (Nat.le_of_ble_eq_true rfl) dX6_give_4 (ct_X8_pop hG h) (fun σ1 h => ?_)
  refine x_aload_n dX6_give_7 rfl 0 rfl ?_
  refine x_getR (q := 21) hG fg_X6_52 dX6_give_8 ?_
  refine x_callVi [] hG mv_X8_isEmpty lk_X6_78 rfl rfl rfl ⟨by decide, by decide⟩ rfl (Nat.le_of_ble_eq_true rfl) dX6_give_11 (ct_X8_isEmpty hG h) (fun r3 σ2 h => ?_)
  refine x_if_eq dX6_give_14 28 (by decide) (fun c => ?_) (fun c => ?_)
  · replace h := h.1 c
    refine x_aload_n dX6_give_28 rfl 0 rfl ?_
    refine x_getR (q := 21) hG fg_X6_52 dX6_give_29 ?_
    refine x_lload_n dX6_give_32 rfl 1 rfl ?_
    refine x_callVv [_] hG mv_X8_take lk_X6_124 rfl rfl rfl ⟨by decide, by decide⟩ rfl (Nat.le_of_ble_eq_true rfl) dX6_give_33 (ct_X8_take hG h) (fun σ4 h => ?_)
    exact x_vret rfl dX6_give_36 ⟨rfl, h⟩
  · replace h := h.2 c
    refine x_aload_n dX6_give_17 rfl 0 rfl ?_
    refine x_getR (q := 10) hG fg_X6_23 dX6_give_18 ?_
    refine x_lload_n dX6_give_21 rfl 1 rfl ?_
    refine x_putL hG fp_X6_120 dX6_give_22 ?_
    refine x_goto dX6_give_25 36 (by decide) ?_
    exact x_vret rfl dX6_give_36 ⟨rfl, h⟩
theorem ct_X6_give {G : Gx} (hG : gLy G = LyC) {σ : Sg} {l1 : Int64} {Q : Sg → Prop} (h : wX6_give σ l1 Q) : CT G mX6_give 2 [.ref (gad G 5), .long l1] σ (qv Q) := ct_of rfl (Nat.le_of_ble_eq_true rfl) rfl (xX6_give hG h)
/-! X6_keep keep -/
def wX6_keep (σ : Sg) (Q : Sg → Prop) : Prop :=
  wX8_stage σ (fun r2 σ1 =>
  (r2 = (1 : Int32) → (
    wX8_frame σ1 (fun r4 σ3 =>
    wX8_actOnTop σ3 (fun r6 σ5 =>
    wX0_given σ5 r6 (2 : Int32) (fun r8 σ7 =>
    wX8_value σ7 (0 : Int32) (fun r10 σ9 =>
    wX3_write σ9 r4 r8 r10 (fun σ11 =>
    wX6_beginPart σ11 (1 : Int32) (fun σ12 =>
    Q σ12
    )
    )
    )
    )
    )
    )
  )) ∧ (¬ r2 = (1 : Int32) → (
    wX8_value σ1 (1 : Int32) (fun r14 σ13 =>
    wX6_give σ13 r14 (fun σ15 =>
    Q σ15
    )
    )
  ))
  )
set_option maxRecDepth 100000 in
set_option maxHeartbeats 4000000 in
theorem xX6_keep {G : Gx} (hG : gLy G = LyC) {σ : Sg} {Q : Sg → Prop} (h : wX6_keep σ Q) : X G mX6_keep 4 0 [(0, .ref (gad G 5))] [] σ (qv Q) := by
  unfold wX6_keep at h
  refine x_aload_n dX6_keep_0 rfl 0 rfl ?_
  refine x_getR (q := 21) hG fg_X6_52 dX6_keep_1 ?_
  refine x_callVi [] hG mv_X8_stage lk_X6_138 rfl rfl rfl ⟨by decide, by decide⟩ rfl (Nat.le_of_ble_eq_true rfl) dX6_keep_4 (ct_X8_stage hG h) (fun r2 σ1 h => ?_)
  refine x_iconst (v := (1 : Int32)) dX6_keep_7 rfl ?_
  refine x_icmp_ne dX6_keep_8 56 (by decide) (fun c => ?_) (fun c => ?_)
  · replace h := h.1 c
    refine x_aload_n dX6_keep_11 rfl 0 rfl ?_
    refine x_getR (q := 12) hG fg_X6_38 dX6_keep_12 ?_
    refine x_aload_n dX6_keep_15 rfl 0 rfl ?_
    refine x_getR (q := 21) hG fg_X6_52 dX6_keep_16 ?_
    refine x_callVi [] hG mv_X8_frame lk_X6_114 rfl rfl rfl ⟨by decide, by decide⟩ rfl (Nat.le_of_ble_eq_true rfl) dX6_keep_19 (ct_X8_frame hG h) (fun r4 σ3 h => ?_)
    refine x_aload_n dX6_keep_22 rfl 0 rfl ?_
    refine x_getR (q := 1) hG fg_X6_7 dX6_keep_23 ?_
    refine x_aload_n dX6_keep_26 rfl 0 rfl ?_
    refine x_getR (q := 21) hG fg_X6_52 dX6_keep_27 ?_
    refine x_callVi [] hG mv_X8_actOnTop lk_X6_105 rfl rfl rfl ⟨by decide, by decide⟩ rfl (Nat.le_of_ble_eq_true rfl) dX6_keep_30 (ct_X8_actOnTop hG h) (fun r6 σ5 h => ?_)
    refine x_iconst (v := (2 : Int32)) dX6_keep_33 rfl ?_
    refine x_callVi [_, _] hG mv_X0_given lk_X6_144 rfl rfl rfl ⟨by decide, by decide⟩ rfl (Nat.le_of_ble_eq_true rfl) dX6_keep_34 (ct_X0_given hG h) (fun r8 σ7 h => ?_)
    refine x_aload_n dX6_keep_37 rfl 0 rfl ?_
    refine x_getR (q := 21) hG fg_X6_52 dX6_keep_38 ?_
    refine x_iconst (v := (0 : Int32)) dX6_keep_41 rfl ?_
    refine x_callVl [_] hG mv_X8_value lk_X6_150 rfl rfl rfl ⟨by decide, by decide⟩ rfl (Nat.le_of_ble_eq_true rfl) dX6_keep_42 (ct_X8_value hG h) (fun r10 σ9 h => ?_)
    refine x_callVv [_, _, _] hG mv_X3_write lk_X6_204 rfl rfl rfl ⟨by decide, by decide⟩ rfl (Nat.le_of_ble_eq_true rfl) dX6_keep_45 (ct_X3_write hG h) (fun σ11 h => ?_)
    refine x_aload_n dX6_keep_48 rfl 0 rfl ?_
    refine x_iconst (v := (1 : Int32)) dX6_keep_49 rfl ?_
    refine x_callVv [_] hG mv_X6_beginPart lk_X6_141 rfl rfl rfl ⟨by decide, by decide⟩ rfl (Nat.le_of_ble_eq_true rfl) dX6_keep_50 (ct_X6_beginPart hG h) (fun σ12 h => ?_)
    refine x_goto dX6_keep_53 68 (by decide) ?_
    exact x_vret rfl dX6_keep_68 ⟨rfl, h⟩
  · replace h := h.2 c
    refine x_aload_n dX6_keep_56 rfl 0 rfl ?_
    refine x_aload_n dX6_keep_57 rfl 0 rfl ?_
    refine x_getR (q := 21) hG fg_X6_52 dX6_keep_58 ?_
    refine x_iconst (v := (1 : Int32)) dX6_keep_61 rfl ?_
    refine x_callVl [_] hG mv_X8_value lk_X6_150 rfl rfl rfl ⟨by decide, by decide⟩ rfl (Nat.le_of_ble_eq_true rfl) dX6_keep_62 (ct_X8_value hG h) (fun r14 σ13 h => ?_)
    refine x_callVv [_] hG mv_X6_give lk_X6_177 rfl rfl rfl ⟨by decide, by decide⟩ rfl (Nat.le_of_ble_eq_true rfl) dX6_keep_65 (ct_X6_give hG h) (fun σ15 h => ?_)
    exact x_vret rfl dX6_keep_68 ⟨rfl, h⟩
theorem ct_X6_keep {G : Gx} (hG : gLy G = LyC) {σ : Sg} {Q : Sg → Prop} (h : wX6_keep σ Q) : CT G mX6_keep 4 [.ref (gad G 5)] σ (qv Q) := ct_of rfl (Nat.le_of_ble_eq_true rfl) rfl (xX6_keep hG h)
/-! X6_doAlways doAlways -/
def wX6_doAlways (σ : Sg) (Q : Sg → Prop) : Prop :=
  wX8_stage σ (fun r2 σ1 =>
  (r2 = (1 : Int32) → (
    wX6_beginPart σ1 (1 : Int32) (fun σ3 =>
    Q σ3
    )
  )) ∧ (¬ r2 = (1 : Int32) → (
    wX8_holdsFailure σ1 (fun r5 σ4 =>
    (r5 = 0 → (
      wX8_value σ4 (0 : Int32) (fun r7 σ6 =>
      wX6_give σ6 r7 (fun σ8 =>
      Q σ8
      )
      )
    )) ∧ (¬ r5 = 0 → (
      wX8_letGo σ4 (fun σ9 =>
      wX8_pop σ9 (fun σ10 =>
      Q σ10
      )
      )
    ))
    )
  ))
  )
set_option maxRecDepth 100000 in
set_option maxHeartbeats 4000000 in
theorem xX6_doAlways {G : Gx} (hG : gLy G = LyC) {σ : Sg} {Q : Sg → Prop} (h : wX6_doAlways σ Q) : X G mX6_doAlways 4 0 [(0, .ref (gad G 5))] [] σ (qv Q) := by
  unfold wX6_doAlways at h
  refine x_aload_n dX6_doAlways_0 rfl 0 rfl ?_
  refine x_getR (q := 21) hG fg_X6_52 dX6_doAlways_1 ?_
  refine x_callVi [] hG mv_X8_stage lk_X6_138 rfl rfl rfl ⟨by decide, by decide⟩ rfl (Nat.le_of_ble_eq_true rfl) dX6_doAlways_4 (ct_X8_stage hG h) (fun r2 σ1 h => ?_)
  refine x_iconst (v := (1 : Int32)) dX6_doAlways_7 rfl ?_
  refine x_icmp_ne dX6_doAlways_8 19 (by decide) (fun c => ?_) (fun c => ?_)
  · replace h := h.1 c
    refine x_aload_n dX6_doAlways_11 rfl 0 rfl ?_
    refine x_iconst (v := (1 : Int32)) dX6_doAlways_12 rfl ?_
    refine x_callVv [_] hG mv_X6_beginPart lk_X6_141 rfl rfl rfl ⟨by decide, by decide⟩ rfl (Nat.le_of_ble_eq_true rfl) dX6_doAlways_13 (ct_X6_beginPart hG h) (fun σ3 h => ?_)
    refine x_goto dX6_doAlways_16 62 (by decide) ?_
    exact x_vret rfl dX6_doAlways_62 ⟨rfl, h⟩
  · replace h := h.2 c
    refine x_aload_n dX6_doAlways_19 rfl 0 rfl ?_
    refine x_getR (q := 21) hG fg_X6_52 dX6_doAlways_20 ?_
    refine x_callVi [] hG mv_X8_holdsFailure lk_X6_208 rfl rfl rfl ⟨by decide, by decide⟩ rfl (Nat.le_of_ble_eq_true rfl) dX6_doAlways_23 (ct_X8_holdsFailure hG h) (fun r5 σ4 h => ?_)
    refine x_if_eq dX6_doAlways_26 50 (by decide) (fun c => ?_) (fun c => ?_)
    · replace h := h.1 c
      refine x_aload_n dX6_doAlways_50 rfl 0 rfl ?_
      refine x_aload_n dX6_doAlways_51 rfl 0 rfl ?_
      refine x_getR (q := 21) hG fg_X6_52 dX6_doAlways_52 ?_
      refine x_iconst (v := (0 : Int32)) dX6_doAlways_55 rfl ?_
      refine x_callVl [_] hG mv_X8_value lk_X6_150 rfl rfl rfl ⟨by decide, by decide⟩ rfl (Nat.le_of_ble_eq_true rfl) dX6_doAlways_56 (ct_X8_value hG h) (fun r7 σ6 h => ?_)
      refine x_callVv [_] hG mv_X6_give lk_X6_177 rfl rfl rfl ⟨by decide, by decide⟩ rfl (Nat.le_of_ble_eq_true rfl) dX6_doAlways_59 (ct_X6_give hG h) (fun σ8 h => ?_)
      exact x_vret rfl dX6_doAlways_62 ⟨rfl, h⟩
    · replace h := h.2 c
      refine x_aload_n dX6_doAlways_29 rfl 0 rfl ?_
      refine x_getR (q := 21) hG fg_X6_52 dX6_doAlways_30 ?_
      refine x_aload_n dX6_doAlways_33 rfl 0 rfl ?_
      refine x_getR (q := 10) hG fg_X6_23 dX6_doAlways_34 ?_
      refine x_callVv [_] hG mv_X8_letGo lk_X6_211 rfl rfl rfl ⟨by decide, by decide⟩ rfl (Nat.le_of_ble_eq_true rfl) dX6_doAlways_37 (ct_X8_letGo hG h) (fun σ9 h => ?_)
      refine x_aload_n dX6_doAlways_40 rfl 0 rfl ?_
      refine x_getR (q := 21) hG fg_X6_52 dX6_doAlways_41 ?_
      refine x_callVv [] hG mv_X8_pop lk_X6_117 rfl rfl rfl ⟨by decide, by decide⟩ rfl (Nat.le_of_ble_eq_true rfl) dX6_doAlways_44 (ct_X8_pop hG h) (fun σ10 h => ?_)
      refine x_goto dX6_doAlways_47 62 (by decide) ?_
      exact x_vret rfl dX6_doAlways_62 ⟨rfl, h⟩
theorem ct_X6_doAlways {G : Gx} (hG : gLy G = LyC) {σ : Sg} {Q : Sg → Prop} (h : wX6_doAlways σ Q) : CT G mX6_doAlways 4 [.ref (gad G 5)] σ (qv Q) := ct_of rfl (Nat.le_of_ble_eq_true rfl) rfl (xX6_doAlways hG h)
/-! X6_choose choose -/
def wX6_choose_31 (σ : Sg) (s1 : Int32) (Q : Sg → Prop) : Prop :=
  wX6_beginPart σ s1 (fun σ1 =>
  Q σ1
  )
set_option maxRecDepth 100000 in
set_option maxHeartbeats 4000000 in
theorem xX6_choose_31 {G : Gx} (hG : gLy G = LyC) {σ : Sg} {s1 : Int32} {Q : Sg → Prop} (h : wX6_choose_31 σ s1 Q) : X G mX6_choose 4 31 [] [.int s1, .ref (gad G 5)] σ (qv Q) := by
  unfold wX6_choose_31 at h
  refine x_callVv [_] hG mv_X6_beginPart lk_X6_141 rfl rfl rfl ⟨by decide, by decide⟩ rfl (Nat.le_of_ble_eq_true rfl) dX6_choose_31 (ct_X6_beginPart hG h) (fun σ1 h => ?_)
  refine x_goto dX6_choose_34 49 (by decide) ?_
  exact x_vret rfl dX6_choose_49 ⟨rfl, h⟩
def wX6_choose (σ : Sg) (Q : Sg → Prop) : Prop :=
  wX8_stage σ (fun r2 σ1 =>
  (r2 = (1 : Int32) → (
    wX8_value σ1 (0 : Int32) (fun r4 σ3 =>
    wX9_number σ3 r4 (fun r6 σ5 =>
    (r6 = 0 → (
      wX6_choose_31 σ5 (2 : Int32) Q
    )) ∧ (¬ r6 = 0 → (
      wX6_choose_31 σ5 (1 : Int32) Q
    ))
    )
    )
  )) ∧ (¬ r2 = (1 : Int32) → (
    wX8_value σ1 (1 : Int32) (fun r8 σ7 =>
    wX6_give σ7 r8 (fun σ9 =>
    Q σ9
    )
    )
  ))
  )
set_option maxRecDepth 100000 in
set_option maxHeartbeats 4000000 in
theorem xX6_choose {G : Gx} (hG : gLy G = LyC) {σ : Sg} {Q : Sg → Prop} (h : wX6_choose σ Q) : X G mX6_choose 4 0 [(0, .ref (gad G 5))] [] σ (qv Q) := by
  unfold wX6_choose at h
  refine x_aload_n dX6_choose_0 rfl 0 rfl ?_
  refine x_getR (q := 21) hG fg_X6_52 dX6_choose_1 ?_
  refine x_callVi [] hG mv_X8_stage lk_X6_138 rfl rfl rfl ⟨by decide, by decide⟩ rfl (Nat.le_of_ble_eq_true rfl) dX6_choose_4 (ct_X8_stage hG h) (fun r2 σ1 h => ?_)
  refine x_iconst (v := (1 : Int32)) dX6_choose_7 rfl ?_
  refine x_icmp_ne dX6_choose_8 37 (by decide) (fun c => ?_) (fun c => ?_)
  · replace h := h.1 c
    refine x_aload_n dX6_choose_11 rfl 0 rfl ?_
    refine x_aload_n dX6_choose_12 rfl 0 rfl ?_
    refine x_getR (q := 21) hG fg_X6_52 dX6_choose_13 ?_
    refine x_iconst (v := (0 : Int32)) dX6_choose_16 rfl ?_
    refine x_callVl [_] hG mv_X8_value lk_X6_150 rfl rfl rfl ⟨by decide, by decide⟩ rfl (Nat.le_of_ble_eq_true rfl) dX6_choose_17 (ct_X8_value hG h) (fun r4 σ3 h => ?_)
    refine x_callSi [_] ms_X9_number lk_X6_166 rfl ⟨by decide, by decide⟩ rfl (Nat.le_of_ble_eq_true rfl) dX6_choose_20 (ct_X9_number hG h) (fun r6 σ5 h => ?_)
    refine x_if_eq dX6_choose_23 30 (by decide) (fun c => ?_) (fun c => ?_)
    · replace h := h.1 c
      refine x_iconst (v := (2 : Int32)) dX6_choose_30 rfl ?_
      exact x_sub [] rfl (xX6_choose_31 hG h)
    · replace h := h.2 c
      refine x_iconst (v := (1 : Int32)) dX6_choose_26 rfl ?_
      refine x_goto dX6_choose_27 31 (by decide) ?_
      exact x_sub [] rfl (xX6_choose_31 hG h)
  · replace h := h.2 c
    refine x_aload_n dX6_choose_37 rfl 0 rfl ?_
    refine x_aload_n dX6_choose_38 rfl 0 rfl ?_
    refine x_getR (q := 21) hG fg_X6_52 dX6_choose_39 ?_
    refine x_iconst (v := (1 : Int32)) dX6_choose_42 rfl ?_
    refine x_callVl [_] hG mv_X8_value lk_X6_150 rfl rfl rfl ⟨by decide, by decide⟩ rfl (Nat.le_of_ble_eq_true rfl) dX6_choose_43 (ct_X8_value hG h) (fun r8 σ7 h => ?_)
    refine x_callVv [_] hG mv_X6_give lk_X6_177 rfl rfl rfl ⟨by decide, by decide⟩ rfl (Nat.le_of_ble_eq_true rfl) dX6_choose_46 (ct_X6_give hG h) (fun σ9 h => ?_)
    exact x_vret rfl dX6_choose_49 ⟨rfl, h⟩
theorem ct_X6_choose {G : Gx} (hG : gLy G = LyC) {σ : Sg} {Q : Sg → Prop} (h : wX6_choose σ Q) : CT G mX6_choose 4 [.ref (gad G 5)] σ (qv Q) := ct_of rfl (Nat.le_of_ble_eq_true rfl) rfl (xX6_choose hG h)
/-! X6_askAgain askAgain -/
def wX6_askAgain (σ : Sg) (Q : Sg → Prop) : Prop :=
  wX8_actOnTop σ (fun r2 σ1 =>
  wX1_takesStep σ1 r2 (fun r4 σ3 =>
  (r4 = 0 → (
    Q σ3
  )) ∧ (¬ r4 = 0 → (
    wX8_setStage σ3 (0 : Int32) (fun σ5 =>
    Q σ5
    )
  ))
  )
  )
set_option maxRecDepth 100000 in
set_option maxHeartbeats 4000000 in
theorem xX6_askAgain {G : Gx} (hG : gLy G = LyC) {σ : Sg} {Q : Sg → Prop} (h : wX6_askAgain σ Q) : X G mX6_askAgain 2 0 [(0, .ref (gad G 5))] [] σ (qv Q) := by
  unfold wX6_askAgain at h
  refine x_aload_n dX6_askAgain_0 rfl 0 rfl ?_
  refine x_getR (q := 10) hG fg_X6_23 dX6_askAgain_1 ?_
  refine x_aload_n dX6_askAgain_4 rfl 0 rfl ?_
  refine x_getR (q := 21) hG fg_X6_52 dX6_askAgain_5 ?_
  refine x_callVi [] hG mv_X8_actOnTop lk_X6_105 rfl rfl rfl ⟨by decide, by decide⟩ rfl (Nat.le_of_ble_eq_true rfl) dX6_askAgain_8 (ct_X8_actOnTop hG h) (fun r2 σ1 h => ?_)
  refine x_callVi [_] hG mv_X1_takesStep lk_X6_94 rfl rfl rfl ⟨by decide, by decide⟩ rfl (Nat.le_of_ble_eq_true rfl) dX6_askAgain_11 (ct_X1_takesStep hG h) (fun r4 σ3 h => ?_)
  refine x_if_eq dX6_askAgain_14 25 (by decide) (fun c => ?_) (fun c => ?_)
  · replace h := h.1 c
    exact x_vret rfl dX6_askAgain_25 ⟨rfl, h⟩
  · replace h := h.2 c
    refine x_aload_n dX6_askAgain_17 rfl 0 rfl ?_
    refine x_getR (q := 21) hG fg_X6_52 dX6_askAgain_18 ?_
    refine x_iconst (v := (0 : Int32)) dX6_askAgain_21 rfl ?_
    refine x_callVv [_] hG mv_X8_setStage lk_X6_220 rfl rfl rfl ⟨by decide, by decide⟩ rfl (Nat.le_of_ble_eq_true rfl) dX6_askAgain_22 (ct_X8_setStage hG h) (fun σ5 h => ?_)
    exact x_vret rfl dX6_askAgain_25 ⟨rfl, h⟩
theorem ct_X6_askAgain {G : Gx} (hG : gLy G = LyC) {σ : Sg} {Q : Sg → Prop} (h : wX6_askAgain σ Q) : CT G mX6_askAgain 2 [.ref (gad G 5)] σ (qv Q) := ct_of rfl (Nat.le_of_ble_eq_true rfl) rfl (xX6_askAgain hG h)
/-! X6_loop loop -/
def wX6_loop (σ : Sg) (Q : Sg → Prop) : Prop :=
  wX8_stage σ (fun r2 σ1 =>
  (r2 = (2 : Int32) → (
    wX6_askAgain σ1 (fun σ3 =>
    Q σ3
    )
  )) ∧ (¬ r2 = (2 : Int32) → (
    wX8_value σ1 (0 : Int32) (fun r5 σ4 =>
    wX9_number σ4 r5 (fun r7 σ6 =>
    (r7 = 0 → (
      wX6_give σ6 (4294967296 : Int64) (fun σ8 =>
      Q σ8
      )
    )) ∧ (¬ r7 = 0 → (
      wX6_beginPart σ6 (1 : Int32) (fun σ9 =>
      Q σ9
      )
    ))
    )
    )
  ))
  )
set_option maxRecDepth 100000 in
set_option maxHeartbeats 4000000 in
theorem xX6_loop {G : Gx} (hG : gLy G = LyC) {σ : Sg} {Q : Sg → Prop} (h : wX6_loop σ Q) : X G mX6_loop 4 0 [(0, .ref (gad G 5))] [] σ (qv Q) := by
  unfold wX6_loop at h
  refine x_aload_n dX6_loop_0 rfl 0 rfl ?_
  refine x_getR (q := 21) hG fg_X6_52 dX6_loop_1 ?_
  refine x_callVi [] hG mv_X8_stage lk_X6_138 rfl rfl rfl ⟨by decide, by decide⟩ rfl (Nat.le_of_ble_eq_true rfl) dX6_loop_4 (ct_X8_stage hG h) (fun r2 σ1 h => ?_)
  refine x_iconst (v := (2 : Int32)) dX6_loop_7 rfl ?_
  refine x_icmp_ne dX6_loop_8 18 (by decide) (fun c => ?_) (fun c => ?_)
  · replace h := h.1 c
    refine x_aload_n dX6_loop_11 rfl 0 rfl ?_
    refine x_callVv [] hG mv_X6_askAgain lk_X6_215 rfl rfl rfl ⟨by decide, by decide⟩ rfl (Nat.le_of_ble_eq_true rfl) dX6_loop_12 (ct_X6_askAgain hG h) (fun σ3 h => ?_)
    refine x_goto dX6_loop_15 47 (by decide) ?_
    exact x_vret rfl dX6_loop_47 ⟨rfl, h⟩
  · replace h := h.2 c
    refine x_aload_n dX6_loop_18 rfl 0 rfl ?_
    refine x_getR (q := 21) hG fg_X6_52 dX6_loop_19 ?_
    refine x_iconst (v := (0 : Int32)) dX6_loop_22 rfl ?_
    refine x_callVl [_] hG mv_X8_value lk_X6_150 rfl rfl rfl ⟨by decide, by decide⟩ rfl (Nat.le_of_ble_eq_true rfl) dX6_loop_23 (ct_X8_value hG h) (fun r5 σ4 h => ?_)
    refine x_callSi [_] ms_X9_number lk_X6_166 rfl ⟨by decide, by decide⟩ rfl (Nat.le_of_ble_eq_true rfl) dX6_loop_26 (ct_X9_number hG h) (fun r7 σ6 h => ?_)
    refine x_if_eq dX6_loop_29 40 (by decide) (fun c => ?_) (fun c => ?_)
    · replace h := h.1 c
      refine x_aload_n dX6_loop_40 rfl 0 rfl ?_
      refine x_ldc2 dX6_loop_41 cl_X6_218 ?_
      refine x_callVv [_] hG mv_X6_give lk_X6_177 rfl rfl rfl ⟨by decide, by decide⟩ rfl (Nat.le_of_ble_eq_true rfl) dX6_loop_44 (ct_X6_give hG h) (fun σ8 h => ?_)
      exact x_vret rfl dX6_loop_47 ⟨rfl, h⟩
    · replace h := h.2 c
      refine x_aload_n dX6_loop_32 rfl 0 rfl ?_
      refine x_iconst (v := (1 : Int32)) dX6_loop_33 rfl ?_
      refine x_callVv [_] hG mv_X6_beginPart lk_X6_141 rfl rfl rfl ⟨by decide, by decide⟩ rfl (Nat.le_of_ble_eq_true rfl) dX6_loop_34 (ct_X6_beginPart hG h) (fun σ9 h => ?_)
      refine x_goto dX6_loop_37 47 (by decide) ?_
      exact x_vret rfl dX6_loop_47 ⟨rfl, h⟩
theorem ct_X6_loop {G : Gx} (hG : gLy G = LyC) {σ : Sg} {Q : Sg → Prop} (h : wX6_loop σ Q) : CT G mX6_loop 4 [.ref (gad G 5)] σ (qv Q) := ct_of rfl (Nat.le_of_ble_eq_true rfl) rfl (xX6_loop hG h)
/-! X6_enter enter -/
def wX6_enter (σ : Sg) (l1 : Int32) (Q : Sg → Prop) : Prop :=
  wX0_has σ l1 (fun r2 σ1 =>
  (r2 = 0 → (
    wX6_give σ1 (4294967296 : Int64) (fun σ3 =>
    Q σ3
    )
  )) ∧ (¬ r2 = 0 → (
    ((sI σ1 5 8) < (8 : Int32) → (
      let σ4 := wI σ1 5 8 ((sI σ1 5 8) + (1 : Int32))
      wX3_open σ4 (fun r6 σ5 =>
      wX8_value σ5 (0 : Int32) (fun r8 σ7 =>
      wX3_write σ7 r6 (0 : Int32) r8 (fun σ9 =>
      wX6_begin σ9 l1 r6 (fun σ10 =>
      Q σ10
      )
      )
      )
      )
    )) ∧ (¬ (sI σ1 5 8) < (8 : Int32) → (
      wX6_endRun σ1 (11 : Int32) (fun σ11 =>
      Q σ11
      )
    ))
  ))
  )
set_option maxRecDepth 100000 in
set_option maxHeartbeats 4000000 in
theorem xX6_enter {G : Gx} (hG : gLy G = LyC) {σ : Sg} {l1 : Int32} {Q : Sg → Prop} (h : wX6_enter σ l1 Q) : X G mX6_enter 4 0 [(0, .ref (gad G 5)), (1, .int l1)] [] σ (qv Q) := by
  unfold wX6_enter at h
  refine x_aload_n dX6_enter_0 rfl 0 rfl ?_
  refine x_getR (q := 1) hG fg_X6_7 dX6_enter_1 ?_
  refine x_iload_n dX6_enter_4 rfl 1 rfl ?_
  refine x_callVi [_] hG mv_X0_has lk_X6_226 rfl rfl rfl ⟨by decide, by decide⟩ rfl (Nat.le_of_ble_eq_true rfl) dX6_enter_5 (ct_X0_has hG h) (fun r2 σ1 h => ?_)
  refine x_if_ne dX6_enter_8 21 (by decide) (fun c => ?_) (fun c => ?_)
  · replace h := h.1 c
    refine x_aload_n dX6_enter_11 rfl 0 rfl ?_
    refine x_ldc2 dX6_enter_12 cl_X6_218 ?_
    refine x_callVv [_] hG mv_X6_give lk_X6_177 rfl rfl rfl ⟨by decide, by decide⟩ rfl (Nat.le_of_ble_eq_true rfl) dX6_enter_15 (ct_X6_give hG h) (fun σ3 h => ?_)
    refine x_goto dX6_enter_18 80 (by decide) ?_
    exact x_vret rfl dX6_enter_80 ⟨rfl, h⟩
  · replace h := h.2 c
    refine x_aload_n dX6_enter_21 rfl 0 rfl ?_
    refine x_getIv hG fg_X6_56 dX6_enter_22 rfl ?_
    refine x_bipush (v := (8 : Int32)) dX6_enter_25 rfl ?_
    refine x_icmp_lt dX6_enter_27 39 (by decide) (fun c => ?_) (fun c => ?_)
    · replace h := h.1 c
      refine x_aload_n dX6_enter_39 rfl 0 rfl ?_
      refine x_dup dX6_enter_40 rfl ?_
      refine x_getIv hG fg_X6_56 dX6_enter_41 rfl ?_
      refine x_iconst (v := (1 : Int32)) dX6_enter_44 rfl ?_
      refine x_iadd dX6_enter_45 ?_
      refine x_putI hG fp_X6_56 dX6_enter_46 ?_
      refine x_aload_n dX6_enter_49 rfl 0 rfl ?_
      refine x_getR (q := 12) hG fg_X6_38 dX6_enter_50 ?_
      refine x_callVi [] hG mv_X3_open lk_X6_69 rfl rfl rfl ⟨by decide, by decide⟩ rfl (Nat.le_of_ble_eq_true rfl) dX6_enter_53 (ct_X3_open hG h) (fun r6 σ5 h => ?_)
      refine x_istore_n dX6_enter_56 rfl (Nat.le_of_ble_eq_true rfl) (lv' := [(2, _), (0, _), (1, _)]) rfl ?_
      refine x_aload_n dX6_enter_57 rfl 1 rfl ?_
      refine x_getR (q := 12) hG fg_X6_38 dX6_enter_58 ?_
      refine x_iload_n dX6_enter_61 rfl 0 rfl ?_
      refine x_iconst (v := (0 : Int32)) dX6_enter_62 rfl ?_
      refine x_aload_n dX6_enter_63 rfl 1 rfl ?_
      refine x_getR (q := 21) hG fg_X6_52 dX6_enter_64 ?_
      refine x_iconst (v := (0 : Int32)) dX6_enter_67 rfl ?_
      refine x_callVl [_] hG mv_X8_value lk_X6_150 rfl rfl rfl ⟨by decide, by decide⟩ rfl (Nat.le_of_ble_eq_true rfl) dX6_enter_68 (ct_X8_value hG h) (fun r8 σ7 h => ?_)
      refine x_callVv [_, _, _] hG mv_X3_write lk_X6_204 rfl rfl rfl ⟨by decide, by decide⟩ rfl (Nat.le_of_ble_eq_true rfl) dX6_enter_71 (ct_X3_write hG h) (fun σ9 h => ?_)
      refine x_aload_n dX6_enter_74 rfl 1 rfl ?_
      refine x_iload_n dX6_enter_75 rfl 2 rfl ?_
      refine x_iload_n dX6_enter_76 rfl 0 rfl ?_
      refine x_callVv [_, _] hG mv_X6_begin lk_X6_73 rfl rfl rfl ⟨by decide, by decide⟩ rfl (Nat.le_of_ble_eq_true rfl) dX6_enter_77 (ct_X6_begin hG h) (fun σ10 h => ?_)
      exact x_vret rfl dX6_enter_80 ⟨rfl, h⟩
    · replace h := h.2 c
      refine x_aload_n dX6_enter_30 rfl 0 rfl ?_
      refine x_bipush (v := (11 : Int32)) dX6_enter_31 rfl ?_
      refine x_callVv [_] hG mv_X6_endRun lk_X6_163 rfl rfl rfl ⟨by decide, by decide⟩ rfl (Nat.le_of_ble_eq_true rfl) dX6_enter_33 (ct_X6_endRun hG h) (fun σ11 h => ?_)
      refine x_goto dX6_enter_36 80 (by decide) ?_
      exact x_vret rfl dX6_enter_80 ⟨rfl, h⟩
theorem ct_X6_enter {G : Gx} (hG : gLy G = LyC) {σ : Sg} {l1 : Int32} {Q : Sg → Prop} (h : wX6_enter σ l1 Q) : CT G mX6_enter 4 [.ref (gad G 5), .int l1] σ (qv Q) := ct_of rfl (Nat.le_of_ble_eq_true rfl) rfl (xX6_enter hG h)
/-! X6_call call -/
def wX6_call (σ : Sg) (Q : Sg → Prop) : Prop :=
  wX8_stage σ (fun r2 σ1 =>
  (r2 = (1 : Int32) → (
    wX8_actOnTop σ1 (fun r4 σ3 =>
    wX0_given σ3 r4 (1 : Int32) (fun r6 σ5 =>
    wX6_enter σ5 r6 (fun σ7 =>
    Q σ7
    )
    )
    )
  )) ∧ (¬ r2 = (1 : Int32) → (
    let σ8 := wI σ1 5 8 ((sI σ1 5 8) - (1 : Int32))
    wX8_value σ8 (1 : Int32) (fun r10 σ9 =>
    wX6_give σ9 r10 (fun σ11 =>
    Q σ11
    )
    )
  ))
  )
set_option maxRecDepth 100000 in
set_option maxHeartbeats 4000000 in
theorem xX6_call {G : Gx} (hG : gLy G = LyC) {σ : Sg} {Q : Sg → Prop} (h : wX6_call σ Q) : X G mX6_call 5 0 [(0, .ref (gad G 5))] [] σ (qv Q) := by
  unfold wX6_call at h
  refine x_aload_n dX6_call_0 rfl 0 rfl ?_
  refine x_getR (q := 21) hG fg_X6_52 dX6_call_1 ?_
  refine x_callVi [] hG mv_X8_stage lk_X6_138 rfl rfl rfl ⟨by decide, by decide⟩ rfl (Nat.le_of_ble_eq_true rfl) dX6_call_4 (ct_X8_stage hG h) (fun r2 σ1 h => ?_)
  refine x_iconst (v := (1 : Int32)) dX6_call_7 rfl ?_
  refine x_icmp_ne dX6_call_8 33 (by decide) (fun c => ?_) (fun c => ?_)
  · replace h := h.1 c
    refine x_aload_n dX6_call_11 rfl 0 rfl ?_
    refine x_aload_n dX6_call_12 rfl 0 rfl ?_
    refine x_getR (q := 1) hG fg_X6_7 dX6_call_13 ?_
    refine x_aload_n dX6_call_16 rfl 0 rfl ?_
    refine x_getR (q := 21) hG fg_X6_52 dX6_call_17 ?_
    refine x_callVi [] hG mv_X8_actOnTop lk_X6_105 rfl rfl rfl ⟨by decide, by decide⟩ rfl (Nat.le_of_ble_eq_true rfl) dX6_call_20 (ct_X8_actOnTop hG h) (fun r4 σ3 h => ?_)
    refine x_iconst (v := (1 : Int32)) dX6_call_23 rfl ?_
    refine x_callVi [_, _] hG mv_X0_given lk_X6_144 rfl rfl rfl ⟨by decide, by decide⟩ rfl (Nat.le_of_ble_eq_true rfl) dX6_call_24 (ct_X0_given hG h) (fun r6 σ5 h => ?_)
    refine x_callVv [_] hG mv_X6_enter lk_X6_223 rfl rfl rfl ⟨by decide, by decide⟩ rfl (Nat.le_of_ble_eq_true rfl) dX6_call_27 (ct_X6_enter hG h) (fun σ7 h => ?_)
    refine x_goto dX6_call_30 55 (by decide) ?_
    exact x_vret rfl dX6_call_55 ⟨rfl, h⟩
  · replace h := h.2 c
    refine x_aload_n dX6_call_33 rfl 0 rfl ?_
    refine x_dup dX6_call_34 rfl ?_
    refine x_getIv hG fg_X6_56 dX6_call_35 rfl ?_
    refine x_iconst (v := (1 : Int32)) dX6_call_38 rfl ?_
    refine x_isub dX6_call_39 ?_
    refine x_putI hG fp_X6_56 dX6_call_40 ?_
    refine x_aload_n dX6_call_43 rfl 0 rfl ?_
    refine x_aload_n dX6_call_44 rfl 0 rfl ?_
    refine x_getR (q := 21) hG fg_X6_52 dX6_call_45 ?_
    refine x_iconst (v := (1 : Int32)) dX6_call_48 rfl ?_
    refine x_callVl [_] hG mv_X8_value lk_X6_150 rfl rfl rfl ⟨by decide, by decide⟩ rfl (Nat.le_of_ble_eq_true rfl) dX6_call_49 (ct_X8_value hG h) (fun r10 σ9 h => ?_)
    refine x_callVv [_] hG mv_X6_give lk_X6_177 rfl rfl rfl ⟨by decide, by decide⟩ rfl (Nat.le_of_ble_eq_true rfl) dX6_call_52 (ct_X6_give hG h) (fun σ11 h => ?_)
    exact x_vret rfl dX6_call_55 ⟨rfl, h⟩
theorem ct_X6_call {G : Gx} (hG : gLy G = LyC) {σ : Sg} {Q : Sg → Prop} (h : wX6_call σ Q) : CT G mX6_call 5 [.ref (gad G 5)] σ (qv Q) := ct_of rfl (Nat.le_of_ble_eq_true rfl) rfl (xX6_call hG h)
/-! X6_delay delay -/
def wX6_delay (σ : Sg) (Q : Sg → Prop) : Prop :=
  wX8_actOnTop σ (fun r2 σ1 =>
  wX0_part σ1 r2 (0 : Int32) (fun r4 σ3 =>
  wX8_frame σ3 (fun r6 σ5 =>
  wX5_add σ5 r4 r6 (fun r8 σ7 =>
  wX6_give σ7 r8 (fun σ9 =>
  Q σ9
  )
  )
  )
  )
  )
set_option maxRecDepth 100000 in
set_option maxHeartbeats 4000000 in
theorem xX6_delay {G : Gx} (hG : gLy G = LyC) {σ : Sg} {Q : Sg → Prop} (h : wX6_delay σ Q) : X G mX6_delay 3 0 [(0, .ref (gad G 5))] [] σ (qv Q) := by
  unfold wX6_delay at h
  refine x_aload_n dX6_delay_0 rfl 0 rfl ?_
  refine x_aload_n dX6_delay_1 rfl 0 rfl ?_
  refine x_getR (q := 14) hG fg_X6_45 dX6_delay_2 ?_
  refine x_aload_n dX6_delay_5 rfl 0 rfl ?_
  refine x_getR (q := 1) hG fg_X6_7 dX6_delay_6 ?_
  refine x_aload_n dX6_delay_9 rfl 0 rfl ?_
  refine x_getR (q := 21) hG fg_X6_52 dX6_delay_10 ?_
  refine x_callVi [] hG mv_X8_actOnTop lk_X6_105 rfl rfl rfl ⟨by decide, by decide⟩ rfl (Nat.le_of_ble_eq_true rfl) dX6_delay_13 (ct_X8_actOnTop hG h) (fun r2 σ1 h => ?_)
  refine x_iconst (v := (0 : Int32)) dX6_delay_16 rfl ?_
  refine x_callVi [_, _] hG mv_X0_part lk_X6_108 rfl rfl rfl ⟨by decide, by decide⟩ rfl (Nat.le_of_ble_eq_true rfl) dX6_delay_17 (ct_X0_part hG h) (fun r4 σ3 h => ?_)
  refine x_aload_n dX6_delay_20 rfl 0 rfl ?_
  refine x_getR (q := 21) hG fg_X6_52 dX6_delay_21 ?_
  refine x_callVi [] hG mv_X8_frame lk_X6_114 rfl rfl rfl ⟨by decide, by decide⟩ rfl (Nat.le_of_ble_eq_true rfl) dX6_delay_24 (ct_X8_frame hG h) (fun r6 σ5 h => ?_)
  refine x_callVl [_, _] hG mv_X5_add lk_X6_229 rfl rfl rfl ⟨by decide, by decide⟩ rfl (Nat.le_of_ble_eq_true rfl) dX6_delay_27 (ct_X5_add hG h) (fun r8 σ7 h => ?_)
  refine x_callVv [_] hG mv_X6_give lk_X6_177 rfl rfl rfl ⟨by decide, by decide⟩ rfl (Nat.le_of_ble_eq_true rfl) dX6_delay_30 (ct_X6_give hG h) (fun σ9 h => ?_)
  exact x_vret rfl dX6_delay_33 ⟨rfl, h⟩
theorem ct_X6_delay {G : Gx} (hG : gLy G = LyC) {σ : Sg} {Q : Sg → Prop} (h : wX6_delay σ Q) : CT G mX6_delay 3 [.ref (gad G 5)] σ (qv Q) := ct_of rfl (Nat.le_of_ble_eq_true rfl) rfl (xX6_delay hG h)
/-! X6_workLater workLater -/
def wX6_workLater (σ : Sg) (l1 : Int32) (Q : Sg → Prop) : Prop :=
  wX5_stateOf σ l1 (fun r2 σ1 =>
  (r2 = 1 → (
    wX6_fail σ1 (8 : Int32) (8 : Int32) (fun σ3 =>
    Q σ3
    )
  )) ∧
  (r2 = 2 → (
    wX5_valueOf σ1 l1 (fun r5 σ4 =>
    wX6_give σ4 r5 (fun σ6 =>
    Q σ6
    )
    )
  )) ∧
  (r2 = 3 → (
    wX5_failureOf σ1 l1 (fun r8 σ7 =>
    wX5_codeOf σ7 l1 (fun r10 σ9 =>
    wX6_fail σ9 r8 r10 (fun σ11 =>
    Q σ11
    )
    )
    )
  )) ∧
  (¬ r2 = 1 → ¬ r2 = 2 → ¬ r2 = 3 → (
    wX5_setState σ1 l1 (1 : Int32) (fun σ12 =>
    wX5_actOf σ12 l1 (fun r14 σ13 =>
    wX5_frameOf σ13 l1 (fun r16 σ15 =>
    wX6_begin σ15 r14 r16 (fun σ17 =>
    Q σ17
    )
    )
    )
    )
  ))
  )
set_option maxRecDepth 100000 in
set_option maxHeartbeats 4000000 in
theorem xX6_workLater {G : Gx} (hG : gLy G = LyC) {σ : Sg} {l1 : Int32} {Q : Sg → Prop} (h : wX6_workLater σ l1 Q) : X G mX6_workLater 3 0 [(0, .ref (gad G 5)), (1, .int l1)] [] σ (qv Q) := by
  unfold wX6_workLater at h
  refine x_aload_n dX6_workLater_0 rfl 0 rfl ?_
  refine x_getR (q := 14) hG fg_X6_45 dX6_workLater_1 ?_
  refine x_iload_n dX6_workLater_4 rfl 1 rfl ?_
  refine x_callVi [_] hG mv_X5_stateOf lk_X6_240 rfl rfl rfl ⟨by decide, by decide⟩ rfl (Nat.le_of_ble_eq_true rfl) dX6_workLater_5 (ct_X5_stateOf hG h) (fun r2 σ1 h => ?_)
  refine x_case (1 : Int32) (fun c => ?_) (fun c0 => ?_)
  · refine x_tblIn (1 : Int32) 36 c dX6_workLater_8 (by decide) (by decide) rfl (by decide) ?_
    replace h := h.1 c
    refine x_aload_n dX6_workLater_36 rfl 0 rfl ?_
    refine x_bipush (v := (8 : Int32)) dX6_workLater_37 rfl ?_
    refine x_bipush (v := (8 : Int32)) dX6_workLater_39 rfl ?_
    refine x_callVv [_, _] hG mv_X6_fail lk_X6_171 rfl rfl rfl ⟨by decide, by decide⟩ rfl (Nat.le_of_ble_eq_true rfl) dX6_workLater_41 (ct_X6_fail hG h) (fun σ3 h => ?_)
    refine x_goto dX6_workLater_44 114 (by decide) ?_
    exact x_vret rfl dX6_workLater_114 ⟨rfl, h⟩
  replace h := h.2
  refine x_case (2 : Int32) (fun c => ?_) (fun c1 => ?_)
  · refine x_tblIn (2 : Int32) 47 c dX6_workLater_8 (by decide) (by decide) rfl (by decide) ?_
    replace h := h.1 c
    refine x_aload_n dX6_workLater_47 rfl 0 rfl ?_
    refine x_aload_n dX6_workLater_48 rfl 0 rfl ?_
    refine x_getR (q := 14) hG fg_X6_45 dX6_workLater_49 ?_
    refine x_iload_n dX6_workLater_52 rfl 1 rfl ?_
    refine x_callVl [_] hG mv_X5_valueOf lk_X6_243 rfl rfl rfl ⟨by decide, by decide⟩ rfl (Nat.le_of_ble_eq_true rfl) dX6_workLater_53 (ct_X5_valueOf hG h) (fun r5 σ4 h => ?_)
    refine x_callVv [_] hG mv_X6_give lk_X6_177 rfl rfl rfl ⟨by decide, by decide⟩ rfl (Nat.le_of_ble_eq_true rfl) dX6_workLater_56 (ct_X6_give hG h) (fun σ6 h => ?_)
    refine x_goto dX6_workLater_59 114 (by decide) ?_
    exact x_vret rfl dX6_workLater_114 ⟨rfl, h⟩
  replace h := h.2
  refine x_case (3 : Int32) (fun c => ?_) (fun c2 => ?_)
  · refine x_tblIn (3 : Int32) 62 c dX6_workLater_8 (by decide) (by decide) rfl (by decide) ?_
    replace h := h.1 c
    refine x_aload_n dX6_workLater_62 rfl 0 rfl ?_
    refine x_aload_n dX6_workLater_63 rfl 0 rfl ?_
    refine x_getR (q := 14) hG fg_X6_45 dX6_workLater_64 ?_
    refine x_iload_n dX6_workLater_67 rfl 1 rfl ?_
    refine x_callVi [_] hG mv_X5_failureOf lk_X6_246 rfl rfl rfl ⟨by decide, by decide⟩ rfl (Nat.le_of_ble_eq_true rfl) dX6_workLater_68 (ct_X5_failureOf hG h) (fun r8 σ7 h => ?_)
    refine x_aload_n dX6_workLater_71 rfl 0 rfl ?_
    refine x_getR (q := 14) hG fg_X6_45 dX6_workLater_72 ?_
    refine x_iload_n dX6_workLater_75 rfl 1 rfl ?_
    refine x_callVi [_] hG mv_X5_codeOf lk_X6_249 rfl rfl rfl ⟨by decide, by decide⟩ rfl (Nat.le_of_ble_eq_true rfl) dX6_workLater_76 (ct_X5_codeOf hG h) (fun r10 σ9 h => ?_)
    refine x_callVv [_, _] hG mv_X6_fail lk_X6_171 rfl rfl rfl ⟨by decide, by decide⟩ rfl (Nat.le_of_ble_eq_true rfl) dX6_workLater_79 (ct_X6_fail hG h) (fun σ11 h => ?_)
    refine x_goto dX6_workLater_82 114 (by decide) ?_
    exact x_vret rfl dX6_workLater_114 ⟨rfl, h⟩
  replace h := h.2
  replace h := h c0 c1 c2
  refine x_tblOut [1, 2, 3] 3 85 (by decide) (by decide) (List.forall_mem_cons.mpr ⟨c0, List.forall_mem_cons.mpr ⟨c1, List.forall_mem_cons.mpr ⟨c2, fun _ h => absurd h List.not_mem_nil⟩⟩⟩) dX6_workLater_8 (by decide) ?_
  refine x_aload_n dX6_workLater_85 rfl 0 rfl ?_
  refine x_getR (q := 14) hG fg_X6_45 dX6_workLater_86 ?_
  refine x_iload_n dX6_workLater_89 rfl 1 rfl ?_
  refine x_iconst (v := (1 : Int32)) dX6_workLater_90 rfl ?_
  refine x_callVv [_, _] hG mv_X5_setState lk_X6_252 rfl rfl rfl ⟨by decide, by decide⟩ rfl (Nat.le_of_ble_eq_true rfl) dX6_workLater_91 (ct_X5_setState hG h) (fun σ12 h => ?_)
  refine x_aload_n dX6_workLater_94 rfl 0 rfl ?_
  refine x_aload_n dX6_workLater_95 rfl 0 rfl ?_
  refine x_getR (q := 14) hG fg_X6_45 dX6_workLater_96 ?_
  refine x_iload_n dX6_workLater_99 rfl 1 rfl ?_
  refine x_callVi [_] hG mv_X5_actOf lk_X6_255 rfl rfl rfl ⟨by decide, by decide⟩ rfl (Nat.le_of_ble_eq_true rfl) dX6_workLater_100 (ct_X5_actOf hG h) (fun r14 σ13 h => ?_)
  refine x_aload_n dX6_workLater_103 rfl 0 rfl ?_
  refine x_getR (q := 14) hG fg_X6_45 dX6_workLater_104 ?_
  refine x_iload_n dX6_workLater_107 rfl 1 rfl ?_
  refine x_callVi [_] hG mv_X5_frameOf lk_X6_258 rfl rfl rfl ⟨by decide, by decide⟩ rfl (Nat.le_of_ble_eq_true rfl) dX6_workLater_108 (ct_X5_frameOf hG h) (fun r16 σ15 h => ?_)
  refine x_callVv [_, _] hG mv_X6_begin lk_X6_73 rfl rfl rfl ⟨by decide, by decide⟩ rfl (Nat.le_of_ble_eq_true rfl) dX6_workLater_111 (ct_X6_begin hG h) (fun σ17 h => ?_)
  exact x_vret rfl dX6_workLater_114 ⟨rfl, h⟩
theorem ct_X6_workLater {G : Gx} (hG : gLy G = LyC) {σ : Sg} {l1 : Int32} {Q : Sg → Prop} (h : wX6_workLater σ l1 Q) : CT G mX6_workLater 3 [.ref (gad G 5), .int l1] σ (qv Q) := ct_of rfl (Nat.le_of_ble_eq_true rfl) rfl (xX6_workLater hG h)
/-! X6_force force -/
def wX6_force (σ : Sg) (l1 : Int32) (Q : Sg → Prop) : Prop :=
  wX8_stage σ (fun r2 σ1 =>
  (r2 = (1 : Int32) → (
    wX6_workLater σ1 l1 (fun σ3 =>
    Q σ3
    )
  )) ∧ (¬ r2 = (1 : Int32) → (
    wX8_value σ1 (1 : Int32) (fun r5 σ4 =>
    wX5_finish σ4 l1 r5 (fun σ6 =>
    wX8_value σ6 (1 : Int32) (fun r8 σ7 =>
    wX6_give σ7 r8 (fun σ9 =>
    Q σ9
    )
    )
    )
    )
  ))
  )
set_option maxRecDepth 100000 in
set_option maxHeartbeats 4000000 in
theorem xX6_force {G : Gx} (hG : gLy G = LyC) {σ : Sg} {l1 : Int32} {Q : Sg → Prop} (h : wX6_force σ l1 Q) : X G mX6_force 4 0 [(0, .ref (gad G 5)), (1, .int l1)] [] σ (qv Q) := by
  unfold wX6_force at h
  refine x_aload_n dX6_force_0 rfl 0 rfl ?_
  refine x_getR (q := 21) hG fg_X6_52 dX6_force_1 ?_
  refine x_callVi [] hG mv_X8_stage lk_X6_138 rfl rfl rfl ⟨by decide, by decide⟩ rfl (Nat.le_of_ble_eq_true rfl) dX6_force_4 (ct_X8_stage hG h) (fun r2 σ1 h => ?_)
  refine x_iconst (v := (1 : Int32)) dX6_force_7 rfl ?_
  refine x_icmp_ne dX6_force_8 19 (by decide) (fun c => ?_) (fun c => ?_)
  · replace h := h.1 c
    refine x_aload_n dX6_force_11 rfl 0 rfl ?_
    refine x_iload_n dX6_force_12 rfl 1 rfl ?_
    refine x_callVv [_] hG mv_X6_workLater lk_X6_233 rfl rfl rfl ⟨by decide, by decide⟩ rfl (Nat.le_of_ble_eq_true rfl) dX6_force_13 (ct_X6_workLater hG h) (fun σ3 h => ?_)
    refine x_goto dX6_force_16 47 (by decide) ?_
    exact x_vret rfl dX6_force_47 ⟨rfl, h⟩
  · replace h := h.2 c
    refine x_aload_n dX6_force_19 rfl 0 rfl ?_
    refine x_getR (q := 14) hG fg_X6_45 dX6_force_20 ?_
    refine x_iload_n dX6_force_23 rfl 1 rfl ?_
    refine x_aload_n dX6_force_24 rfl 0 rfl ?_
    refine x_getR (q := 21) hG fg_X6_52 dX6_force_25 ?_
    refine x_iconst (v := (1 : Int32)) dX6_force_28 rfl ?_
    refine x_callVl [_] hG mv_X8_value lk_X6_150 rfl rfl rfl ⟨by decide, by decide⟩ rfl (Nat.le_of_ble_eq_true rfl) dX6_force_29 (ct_X8_value hG h) (fun r5 σ4 h => ?_)
    refine x_callVv [_, _] hG mv_X5_finish lk_X6_236 rfl rfl rfl ⟨by decide, by decide⟩ rfl (Nat.le_of_ble_eq_true rfl) dX6_force_32 (ct_X5_finish hG h) (fun σ6 h => ?_)
    refine x_aload_n dX6_force_35 rfl 0 rfl ?_
    refine x_aload_n dX6_force_36 rfl 0 rfl ?_
    refine x_getR (q := 21) hG fg_X6_52 dX6_force_37 ?_
    refine x_iconst (v := (1 : Int32)) dX6_force_40 rfl ?_
    refine x_callVl [_] hG mv_X8_value lk_X6_150 rfl rfl rfl ⟨by decide, by decide⟩ rfl (Nat.le_of_ble_eq_true rfl) dX6_force_41 (ct_X8_value hG h) (fun r8 σ7 h => ?_)
    refine x_callVv [_] hG mv_X6_give lk_X6_177 rfl rfl rfl ⟨by decide, by decide⟩ rfl (Nat.le_of_ble_eq_true rfl) dX6_force_44 (ct_X6_give hG h) (fun σ9 h => ?_)
    exact x_vret rfl dX6_force_47 ⟨rfl, h⟩
theorem ct_X6_force {G : Gx} (hG : gLy G = LyC) {σ : Sg} {l1 : Int32} {Q : Sg → Prop} (h : wX6_force σ l1 Q) : CT G mX6_force 4 [.ref (gad G 5), .int l1] σ (qv Q) := ct_of rfl (Nat.le_of_ble_eq_true rfl) rfl (xX6_force hG h)
/-! X6_copy copy -/
def wX6_copy (σ : Sg) (Q : Sg → Prop) : Prop :=
  wX8_value σ (2 : Int32) (fun r2 σ1 =>
  wX8_value σ1 (0 : Int32) (fun r4 σ3 =>
  wX8_value σ3 (1 : Int32) (fun r6 σ5 =>
  wX9_number σ5 r2 (fun r8 σ7 =>
  wX7_copied σ7 r4 r6 r8 (fun r10 σ9 =>
  (r10 = 0 → (
    wX6_fail σ9 (5 : Int32) (5 : Int32) (fun σ11 =>
    Q σ11
    )
  )) ∧ (¬ r10 = 0 → (
    wX6_give σ9 r2 (fun σ12 =>
    Q σ12
    )
  ))
  )
  )
  )
  )
  )
set_option maxRecDepth 100000 in
set_option maxHeartbeats 4000000 in
theorem xX6_copy {G : Gx} (hG : gLy G = LyC) {σ : Sg} {Q : Sg → Prop} (h : wX6_copy σ Q) : X G mX6_copy 4 0 [(0, .ref (gad G 5))] [] σ (qv Q) := by
  unfold wX6_copy at h
  refine x_aload_n dX6_copy_0 rfl 0 rfl ?_
  refine x_getR (q := 21) hG fg_X6_52 dX6_copy_1 ?_
  refine x_iconst (v := (2 : Int32)) dX6_copy_4 rfl ?_
  refine x_callVl [_] hG mv_X8_value lk_X6_150 rfl rfl rfl ⟨by decide, by decide⟩ rfl (Nat.le_of_ble_eq_true rfl) dX6_copy_5 (ct_X8_value hG h) (fun r2 σ1 h => ?_)
  refine x_lstore_n dX6_copy_8 rfl (Nat.le_of_ble_eq_true rfl) (lv' := [(1, _), (0, _)]) rfl ?_
  refine x_aload_n dX6_copy_9 rfl 1 rfl ?_
  refine x_getR (q := 6) hG fg_X6_16 dX6_copy_10 ?_
  refine x_aload_n dX6_copy_13 rfl 1 rfl ?_
  refine x_getR (q := 21) hG fg_X6_52 dX6_copy_14 ?_
  refine x_iconst (v := (0 : Int32)) dX6_copy_17 rfl ?_
  refine x_callVl [_] hG mv_X8_value lk_X6_150 rfl rfl rfl ⟨by decide, by decide⟩ rfl (Nat.le_of_ble_eq_true rfl) dX6_copy_18 (ct_X8_value hG h) (fun r4 σ3 h => ?_)
  refine x_aload_n dX6_copy_21 rfl 1 rfl ?_
  refine x_getR (q := 21) hG fg_X6_52 dX6_copy_22 ?_
  refine x_iconst (v := (1 : Int32)) dX6_copy_25 rfl ?_
  refine x_callVl [_] hG mv_X8_value lk_X6_150 rfl rfl rfl ⟨by decide, by decide⟩ rfl (Nat.le_of_ble_eq_true rfl) dX6_copy_26 (ct_X8_value hG h) (fun r6 σ5 h => ?_)
  refine x_lload_n dX6_copy_29 rfl 0 rfl ?_
  refine x_callSi [_] ms_X9_number lk_X6_166 rfl ⟨by decide, by decide⟩ rfl (Nat.le_of_ble_eq_true rfl) dX6_copy_30 (ct_X9_number hG h) (fun r8 σ7 h => ?_)
  refine x_callVi [_, _, _] hG mv_X7_copied lk_X6_261 rfl rfl rfl ⟨by decide, by decide⟩ rfl (Nat.le_of_ble_eq_true rfl) dX6_copy_33 (ct_X7_copied hG h) (fun r10 σ9 h => ?_)
  refine x_if_eq dX6_copy_36 47 (by decide) (fun c => ?_) (fun c => ?_)
  · replace h := h.1 c
    refine x_aload_n dX6_copy_47 rfl 1 rfl ?_
    refine x_iconst (v := (5 : Int32)) dX6_copy_48 rfl ?_
    refine x_iconst (v := (5 : Int32)) dX6_copy_49 rfl ?_
    refine x_callVv [_, _] hG mv_X6_fail lk_X6_171 rfl rfl rfl ⟨by decide, by decide⟩ rfl (Nat.le_of_ble_eq_true rfl) dX6_copy_50 (ct_X6_fail hG h) (fun σ11 h => ?_)
    exact x_vret rfl dX6_copy_53 ⟨rfl, h⟩
  · replace h := h.2 c
    refine x_aload_n dX6_copy_39 rfl 1 rfl ?_
    refine x_lload_n dX6_copy_40 rfl 0 rfl ?_
    refine x_callVv [_] hG mv_X6_give lk_X6_177 rfl rfl rfl ⟨by decide, by decide⟩ rfl (Nat.le_of_ble_eq_true rfl) dX6_copy_41 (ct_X6_give hG h) (fun σ12 h => ?_)
    refine x_goto dX6_copy_44 53 (by decide) ?_
    exact x_vret rfl dX6_copy_53 ⟨rfl, h⟩
theorem ct_X6_copy {G : Gx} (hG : gLy G = LyC) {σ : Sg} {Q : Sg → Prop} (h : wX6_copy σ Q) : CT G mX6_copy 4 [.ref (gad G 5)] σ (qv Q) := ct_of rfl (Nat.le_of_ble_eq_true rfl) rfl (xX6_copy hG h)
/-! X6_reckon reckon -/
def wX6_reckon_142 (σ : Sg) (s0 : Int32) (Q : Int64 → Sg → Prop) : Prop :=
  wX9_truth σ s0 (fun r2 σ1 =>
  Q r2 σ1
  )
set_option maxRecDepth 100000 in
set_option maxHeartbeats 4000000 in
theorem xX6_reckon_142 {G : Gx} (hG : gLy G = LyC) {σ : Sg} {s0 : Int32} {Q : Int64 → Sg → Prop} (h : wX6_reckon_142 σ s0 Q) : X G mX6_reckon 3 142 [] [.int s0] σ (ql Q) := by
  unfold wX6_reckon_142 at h
  refine x_callSl [_] ms_X9_truth lk_X6_281 rfl ⟨by decide, by decide⟩ rfl (Nat.le_of_ble_eq_true rfl) dX6_reckon_142 (ct_X9_truth hG h) (fun r2 σ1 h => ?_)
  exact x_lret rfl dX6_reckon_145 ⟨_, rfl, h⟩
def wX6_reckon_158 (σ : Sg) (s0 : Int32) (Q : Int64 → Sg → Prop) : Prop :=
  wX9_truth σ s0 (fun r2 σ1 =>
  Q r2 σ1
  )
set_option maxRecDepth 100000 in
set_option maxHeartbeats 4000000 in
theorem xX6_reckon_158 {G : Gx} (hG : gLy G = LyC) {σ : Sg} {s0 : Int32} {Q : Int64 → Sg → Prop} (h : wX6_reckon_158 σ s0 Q) : X G mX6_reckon 3 158 [] [.int s0] σ (ql Q) := by
  unfold wX6_reckon_158 at h
  refine x_callSl [_] ms_X9_truth lk_X6_281 rfl ⟨by decide, by decide⟩ rfl (Nat.le_of_ble_eq_true rfl) dX6_reckon_158 (ct_X9_truth hG h) (fun r2 σ1 h => ?_)
  exact x_lret rfl dX6_reckon_161 ⟨_, rfl, h⟩
def wX6_reckon (σ : Sg) (l1 : Int32) (l2 : Int32) (l3 : Int64) (l5 : Int64) (Q : Int64 → Sg → Prop) : Prop :=
  wX9_number σ l3 (fun r2 σ1 =>
  wX9_number σ1 l5 (fun r4 σ3 =>
  (l1 = 0 → (
    wX9_whole σ3 l2 (fun r6 σ5 =>
    Q r6 σ5
    )
  )) ∧
  (l1 = 1 → (
    wX8_frame σ3 (fun r8 σ7 =>
    wX3_read σ7 r8 l2 (fun r10 σ9 =>
    Q r10 σ9
    )
    )
  )) ∧
  (l1 = 2 → (
    Q (4294967296 : Int64) σ3
  )) ∧
  (l1 = 3 → (
    Q l5 σ3
  )) ∧
  (l1 = 4 → (
    Q (4294967296 : Int64) σ3
  )) ∧
  (l1 = 5 → (
    wX9_whole σ3 (r2 + r4) (fun r12 σ11 =>
    Q r12 σ11
    )
  )) ∧
  (l1 = 6 → (
    wX9_whole σ3 (r2 * r4) (fun r14 σ13 =>
    Q r14 σ13
    )
  )) ∧
  (l1 = 7 → (
    (r4 = 0 → (
      Q (4294967296 : Int64) σ3
    )) ∧ (¬ r4 = 0 → (
      ¬ r4 = 0 ∧
      wX9_whole σ3 (r2 / r4) (fun r16 σ15 =>
      Q r16 σ15
      )
    ))
  )) ∧
  (l1 = 8 → (
    (r2 < r4 → (
      wX6_reckon_142 σ3 (1 : Int32) Q
    )) ∧ (¬ r2 < r4 → (
      wX6_reckon_142 σ3 (0 : Int32) Q
    ))
  )) ∧
  (l1 = 9 → (
    ((lg_cmp l3 l5) = 0 → (
      wX6_reckon_158 σ3 (1 : Int32) Q
    )) ∧ (¬ (lg_cmp l3 l5) = 0 → (
      wX6_reckon_158 σ3 (0 : Int32) Q
    ))
  )) ∧
  (¬ l1 = 0 → ¬ l1 = 1 → ¬ l1 = 2 → ¬ l1 = 3 → ¬ l1 = 4 → ¬ l1 = 5 → ¬ l1 = 6 → ¬ l1 = 7 → ¬ l1 = 8 → ¬ l1 = 9 → (
    Q (4294967296 : Int64) σ3
  ))
  )
  )
set_option maxRecDepth 100000 in
set_option maxHeartbeats 4000000 in
theorem xX6_reckon {G : Gx} (hG : gLy G = LyC) {σ : Sg} {l1 : Int32} {l2 : Int32} {l3 : Int64} {l5 : Int64} {Q : Int64 → Sg → Prop} (h : wX6_reckon σ l1 l2 l3 l5 Q) : X G mX6_reckon 3 0 [(0, .ref (gad G 5)), (1, .int l1), (2, .int l2), (3, .long l3), (5, .long l5)] [] σ (ql Q) := by
  unfold wX6_reckon at h
  refine x_lload_n dX6_reckon_0 rfl 3 rfl ?_
  refine x_callSi [_] ms_X9_number lk_X6_166 rfl ⟨by decide, by decide⟩ rfl (Nat.le_of_ble_eq_true rfl) dX6_reckon_1 (ct_X9_number hG h) (fun r2 σ1 h => ?_)
  refine x_istore dX6_reckon_4 (Nat.le_of_ble_eq_true rfl) (lv' := [(7, _), (0, _), (1, _), (2, _), (3, _), (5, _)]) rfl ?_
  refine x_lload dX6_reckon_6 5 rfl ?_
  refine x_callSi [_] ms_X9_number lk_X6_166 rfl ⟨by decide, by decide⟩ rfl (Nat.le_of_ble_eq_true rfl) dX6_reckon_8 (ct_X9_number hG h) (fun r4 σ3 h => ?_)
  refine x_istore dX6_reckon_11 (Nat.le_of_ble_eq_true rfl) (lv' := [(8, _), (7, _), (0, _), (1, _), (2, _), (3, _), (5, _)]) rfl ?_
  refine x_iload_n dX6_reckon_13 rfl 3 rfl ?_
  refine x_case (0 : Int32) (fun c => ?_) (fun c0 => ?_)
  · refine x_tblIn (0 : Int32) 68 c dX6_reckon_14 (by decide) (by decide) rfl (by decide) ?_
    replace h := h.1 c
    refine x_iload_n dX6_reckon_68 rfl 4 rfl ?_
    refine x_callSl [_] ms_X9_whole lk_X6_275 rfl ⟨by decide, by decide⟩ rfl (Nat.le_of_ble_eq_true rfl) dX6_reckon_69 (ct_X9_whole hG h) (fun r6 σ5 h => ?_)
    exact x_lret rfl dX6_reckon_72 ⟨_, rfl, h⟩
  replace h := h.2
  refine x_case (1 : Int32) (fun c => ?_) (fun c1 => ?_)
  · refine x_tblIn (1 : Int32) 73 c dX6_reckon_14 (by decide) (by decide) rfl (by decide) ?_
    replace h := h.1 c
    refine x_aload_n dX6_reckon_73 rfl 2 rfl ?_
    refine x_getR (q := 12) hG fg_X6_38 dX6_reckon_74 ?_
    refine x_aload_n dX6_reckon_77 rfl 2 rfl ?_
    refine x_getR (q := 21) hG fg_X6_52 dX6_reckon_78 ?_
    refine x_callVi [] hG mv_X8_frame lk_X6_114 rfl rfl rfl ⟨by decide, by decide⟩ rfl (Nat.le_of_ble_eq_true rfl) dX6_reckon_81 (ct_X8_frame hG h) (fun r8 σ7 h => ?_)
    refine x_iload_n dX6_reckon_84 rfl 4 rfl ?_
    refine x_callVl [_, _] hG mv_X3_read lk_X6_278 rfl rfl rfl ⟨by decide, by decide⟩ rfl (Nat.le_of_ble_eq_true rfl) dX6_reckon_85 (ct_X3_read hG h) (fun r10 σ9 h => ?_)
    exact x_lret rfl dX6_reckon_88 ⟨_, rfl, h⟩
  replace h := h.2
  refine x_case (2 : Int32) (fun c => ?_) (fun c2 => ?_)
  · refine x_tblIn (2 : Int32) 162 c dX6_reckon_14 (by decide) (by decide) rfl (by decide) ?_
    replace h := h.1 c
    refine x_ldc2 dX6_reckon_162 cl_X6_218 ?_
    exact x_lret rfl dX6_reckon_165 ⟨_, rfl, h⟩
  replace h := h.2
  refine x_case (3 : Int32) (fun c => ?_) (fun c3 => ?_)
  · refine x_tblIn (3 : Int32) 89 c dX6_reckon_14 (by decide) (by decide) rfl (by decide) ?_
    replace h := h.1 c
    refine x_lload dX6_reckon_89 6 rfl ?_
    exact x_lret rfl dX6_reckon_91 ⟨_, rfl, h⟩
  replace h := h.2
  refine x_case (4 : Int32) (fun c => ?_) (fun c4 => ?_)
  · refine x_tblIn (4 : Int32) 162 c dX6_reckon_14 (by decide) (by decide) rfl (by decide) ?_
    replace h := h.1 c
    refine x_ldc2 dX6_reckon_162 cl_X6_218 ?_
    exact x_lret rfl dX6_reckon_165 ⟨_, rfl, h⟩
  replace h := h.2
  refine x_case (5 : Int32) (fun c => ?_) (fun c5 => ?_)
  · refine x_tblIn (5 : Int32) 92 c dX6_reckon_14 (by decide) (by decide) rfl (by decide) ?_
    replace h := h.1 c
    refine x_iload dX6_reckon_92 1 rfl ?_
    refine x_iload dX6_reckon_94 0 rfl ?_
    refine x_iadd dX6_reckon_96 ?_
    refine x_callSl [_] ms_X9_whole lk_X6_275 rfl ⟨by decide, by decide⟩ rfl (Nat.le_of_ble_eq_true rfl) dX6_reckon_97 (ct_X9_whole hG h) (fun r12 σ11 h => ?_)
    exact x_lret rfl dX6_reckon_100 ⟨_, rfl, h⟩
  replace h := h.2
  refine x_case (6 : Int32) (fun c => ?_) (fun c6 => ?_)
  · refine x_tblIn (6 : Int32) 101 c dX6_reckon_14 (by decide) (by decide) rfl (by decide) ?_
    replace h := h.1 c
    refine x_iload dX6_reckon_101 1 rfl ?_
    refine x_iload dX6_reckon_103 0 rfl ?_
    refine x_imul dX6_reckon_105 ?_
    refine x_callSl [_] ms_X9_whole lk_X6_275 rfl ⟨by decide, by decide⟩ rfl (Nat.le_of_ble_eq_true rfl) dX6_reckon_106 (ct_X9_whole hG h) (fun r14 σ13 h => ?_)
    exact x_lret rfl dX6_reckon_109 ⟨_, rfl, h⟩
  replace h := h.2
  refine x_case (7 : Int32) (fun c => ?_) (fun c7 => ?_)
  · refine x_tblIn (7 : Int32) 110 c dX6_reckon_14 (by decide) (by decide) rfl (by decide) ?_
    replace h := h.1 c
    refine x_iload dX6_reckon_110 0 rfl ?_
    refine x_if_eq dX6_reckon_112 126 (by decide) (fun c => ?_) (fun c => ?_)
    · replace h := h.1 c
      refine x_ldc2 dX6_reckon_126 cl_X6_218 ?_
      exact x_lret rfl dX6_reckon_129 ⟨_, rfl, h⟩
    · replace h := h.2 c
      refine x_iload dX6_reckon_115 1 rfl ?_
      refine x_iload dX6_reckon_117 0 rfl ?_
      refine x_idiv dX6_reckon_119 h.1 ?_
      replace h := h.2
      refine x_callSl [_] ms_X9_whole lk_X6_275 rfl ⟨by decide, by decide⟩ rfl (Nat.le_of_ble_eq_true rfl) dX6_reckon_120 (ct_X9_whole hG h) (fun r16 σ15 h => ?_)
      refine x_goto dX6_reckon_123 129 (by decide) ?_
      exact x_lret rfl dX6_reckon_129 ⟨_, rfl, h⟩
  replace h := h.2
  refine x_case (8 : Int32) (fun c => ?_) (fun c8 => ?_)
  · refine x_tblIn (8 : Int32) 130 c dX6_reckon_14 (by decide) (by decide) rfl (by decide) ?_
    replace h := h.1 c
    refine x_iload dX6_reckon_130 1 rfl ?_
    refine x_iload dX6_reckon_132 0 rfl ?_
    refine x_icmp_ge dX6_reckon_134 141 (by decide) (fun c => ?_) (fun c => ?_)
    · replace h := h.1 c
      refine x_iconst (v := (1 : Int32)) dX6_reckon_137 rfl ?_
      refine x_goto dX6_reckon_138 142 (by decide) ?_
      exact x_sub [] rfl (xX6_reckon_142 hG h)
    · replace h := h.2 c
      refine x_iconst (v := (0 : Int32)) dX6_reckon_141 rfl ?_
      exact x_sub [] rfl (xX6_reckon_142 hG h)
  replace h := h.2
  refine x_case (9 : Int32) (fun c => ?_) (fun c9 => ?_)
  · refine x_tblIn (9 : Int32) 146 c dX6_reckon_14 (by decide) (by decide) rfl (by decide) ?_
    replace h := h.1 c
    refine x_lload_n dX6_reckon_146 rfl 5 rfl ?_
    refine x_lload dX6_reckon_147 6 rfl ?_
    refine x_lcmp dX6_reckon_149 ?_
    refine x_if_ne dX6_reckon_150 157 (by decide) (fun c => ?_) (fun c => ?_)
    · replace h := h.1 c
      refine x_iconst (v := (1 : Int32)) dX6_reckon_153 rfl ?_
      refine x_goto dX6_reckon_154 158 (by decide) ?_
      exact x_sub [] rfl (xX6_reckon_158 hG h)
    · replace h := h.2 c
      refine x_iconst (v := (0 : Int32)) dX6_reckon_157 rfl ?_
      exact x_sub [] rfl (xX6_reckon_158 hG h)
  replace h := h.2
  replace h := h c0 c1 c2 c3 c4 c5 c6 c7 c8 c9
  refine x_tblOut [0, 1, 2, 3, 4, 5, 6, 7, 8, 9] 10 162 (by decide) (by decide) (List.forall_mem_cons.mpr ⟨c0, List.forall_mem_cons.mpr ⟨c1, List.forall_mem_cons.mpr ⟨c2, List.forall_mem_cons.mpr ⟨c3, List.forall_mem_cons.mpr ⟨c4, List.forall_mem_cons.mpr ⟨c5, List.forall_mem_cons.mpr ⟨c6, List.forall_mem_cons.mpr ⟨c7, List.forall_mem_cons.mpr ⟨c8, List.forall_mem_cons.mpr ⟨c9, fun _ h => absurd h List.not_mem_nil⟩⟩⟩⟩⟩⟩⟩⟩⟩⟩) dX6_reckon_14 (by decide) ?_
  refine x_ldc2 dX6_reckon_162 cl_X6_218 ?_
  exact x_lret rfl dX6_reckon_165 ⟨_, rfl, h⟩
theorem ct_X6_reckon {G : Gx} (hG : gLy G = LyC) {σ : Sg} {l1 : Int32} {l2 : Int32} {l3 : Int64} {l5 : Int64} {Q : Int64 → Sg → Prop} (h : wX6_reckon σ l1 l2 l3 l5 Q) : CT G mX6_reckon 3 [.ref (gad G 5), .int l1, .int l2, .long l3, .long l5] σ (ql Q) := ct_of rfl (Nat.le_of_ble_eq_true rfl) rfl (xX6_reckon hG h)
/-! X6_put put -/
def wX6_put (σ : Sg) (l1 : Int32) (l2 : Int64) (Q : Int64 → Sg → Prop) : Prop :=
  wX7_write σ l1 l2 (fun σ1 =>
  Q l2 σ1
  )
set_option maxRecDepth 100000 in
set_option maxHeartbeats 4000000 in
theorem xX6_put {G : Gx} (hG : gLy G = LyC) {σ : Sg} {l1 : Int32} {l2 : Int64} {Q : Int64 → Sg → Prop} (h : wX6_put σ l1 l2 Q) : X G mX6_put 2 0 [(0, .ref (gad G 5)), (1, .int l1), (2, .long l2)] [] σ (ql Q) := by
  unfold wX6_put at h
  refine x_aload_n dX6_put_0 rfl 0 rfl ?_
  refine x_getR (q := 6) hG fg_X6_16 dX6_put_1 ?_
  refine x_iload_n dX6_put_4 rfl 1 rfl ?_
  refine x_lload_n dX6_put_5 rfl 2 rfl ?_
  refine x_callVv [_, _] hG mv_X7_write lk_X6_305 rfl rfl rfl ⟨by decide, by decide⟩ rfl (Nat.le_of_ble_eq_true rfl) dX6_put_6 (ct_X7_write hG h) (fun σ1 h => ?_)
  refine x_lload_n dX6_put_9 rfl 2 rfl ?_
  exact x_lret rfl dX6_put_10 ⟨_, rfl, h⟩
theorem ct_X6_put {G : Gx} (hG : gLy G = LyC) {σ : Sg} {l1 : Int32} {l2 : Int64} {Q : Int64 → Sg → Prop} (h : wX6_put σ l1 l2 Q) : CT G mX6_put 2 [.ref (gad G 5), .int l1, .long l2] σ (ql Q) := ct_of rfl (Nat.le_of_ble_eq_true rfl) rfl (xX6_put hG h)
/-! X6_tell tell -/
def wX6_tell (σ : Sg) (l1 : Int64) (Q : Int64 → Sg → Prop) : Prop :=
  ((sI σ 5 4) < (40 : Int32) → (
    wX9_number σ l1 (fun r2 σ1 =>
    vp_in (sI σ 5 4) 40 ∧
    let σ3 := wI σ1 11 ((sI σ 5 4)).toNatClampNeg r2
    let σ4 := wI σ3 5 4 ((sI σ1 5 4) + (1 : Int32))
    Q l1 σ4
    )
  )) ∧ (¬ (sI σ 5 4) < (40 : Int32) → (
    Q l1 σ
  ))
set_option maxRecDepth 100000 in
set_option maxHeartbeats 4000000 in
theorem xX6_tell {G : Gx} (hG : gLy G = LyC) {σ : Sg} {l1 : Int64} {Q : Int64 → Sg → Prop} (h : wX6_tell σ l1 Q) : X G mX6_tell 2 0 [(0, .ref (gad G 5)), (1, .long l1)] [] σ (ql Q) := by
  unfold wX6_tell at h
  refine x_aload_n dX6_tell_0 rfl 0 rfl ?_
  refine x_getIv hG fg_X6_31 dX6_tell_1 rfl ?_
  refine x_bipush (v := (40 : Int32)) dX6_tell_4 rfl ?_
  refine x_icmp_ge dX6_tell_6 32 (by decide) (fun c => ?_) (fun c => ?_)
  · replace h := h.1 c
    refine x_aload_n dX6_tell_9 rfl 0 rfl ?_
    refine x_getR (q := 11) hG fg_X6_27 dX6_tell_10 ?_
    refine x_aload_n dX6_tell_13 rfl 0 rfl ?_
    refine x_getIv hG fg_X6_31 dX6_tell_14 rfl ?_
    refine x_lload_n dX6_tell_17 rfl 1 rfl ?_
    refine x_callSi [_] ms_X9_number lk_X6_166 rfl ⟨by decide, by decide⟩ rfl (Nat.le_of_ble_eq_true rfl) dX6_tell_18 (ct_X9_number hG h) (fun r2 σ1 h => ?_)
    refine x_iast hG rfl dX6_tell_21 h.1 ?_
    replace h := h.2
    refine x_aload_n dX6_tell_22 rfl 0 rfl ?_
    refine x_dup dX6_tell_23 rfl ?_
    refine x_getIv hG fg_X6_31 dX6_tell_24 (rd_no (by decide) rfl) ?_
    refine x_iconst (v := (1 : Int32)) dX6_tell_27 rfl ?_
    refine x_iadd dX6_tell_28 ?_
    refine x_putI hG fp_X6_31 dX6_tell_29 ?_
    refine x_lload_n dX6_tell_32 rfl 1 rfl ?_
    exact x_lret rfl dX6_tell_33 ⟨_, rfl, h⟩
  · replace h := h.2 c
    refine x_lload_n dX6_tell_32 rfl 1 rfl ?_
    exact x_lret rfl dX6_tell_33 ⟨_, rfl, h⟩
theorem ct_X6_tell {G : Gx} (hG : gLy G = LyC) {σ : Sg} {l1 : Int64} {Q : Int64 → Sg → Prop} (h : wX6_tell σ l1 Q) : CT G mX6_tell 2 [.ref (gad G 5), .long l1] σ (ql Q) := ct_of rfl (Nat.le_of_ble_eq_true rfl) rfl (xX6_tell hG h)
/-! X6_change change -/
def wX6_change (σ : Sg) (l1 : Int32) (l2 : Int32) (l3 : Int64) (l5 : Int64) (l7 : Int64) (Q : Int64 → Sg → Prop) : Prop :=
  (l1 = 10 → (
    wX9_number σ l3 (fun r2 σ1 =>
    wX7_newRow σ1 (2 : Int32) r2 (fun r4 σ3 =>
    Q r4 σ3
    )
    )
  )) ∧
  (l1 = 11 → (
    wX9_number σ l3 (fun r6 σ5 =>
    wX7_newRow σ5 (3 : Int32) r6 (fun r8 σ7 =>
    Q r8 σ7
    )
    )
  )) ∧
  (l1 = 12 → (
    wX9_number σ l3 (fun r10 σ9 =>
    wX7_newRow σ9 (4 : Int32) r10 (fun r12 σ11 =>
    Q r12 σ11
    )
    )
  )) ∧
  (l1 = 13 → (
    wX7_newLink σ (5 : Int32) l3 (fun r14 σ13 =>
    Q r14 σ13
    )
  )) ∧
  (l1 = 14 → (
    wX7_newLink σ (6 : Int32) l3 (fun r16 σ15 =>
    Q r16 σ15
    )
  )) ∧
  (l1 = 15 → (
    wX9_number σ l5 (fun r18 σ17 =>
    wX7_cellOf σ17 l3 r18 (fun r20 σ19 =>
    wX7_read σ19 r20 (fun r22 σ21 =>
    Q r22 σ21
    )
    )
    )
  )) ∧
  (l1 = 16 → (
    wX9_number σ l5 (fun r24 σ23 =>
    wX7_cellOf σ23 l3 r24 (fun r26 σ25 =>
    wX6_put σ25 r26 l7 (fun r28 σ27 =>
    Q r28 σ27
    )
    )
    )
  )) ∧
  (l1 = 17 → (
    wX9_number σ l3 (fun r30 σ29 =>
    wX7_read σ29 r30 (fun r32 σ31 =>
    Q r32 σ31
    )
    )
  )) ∧
  (l1 = 18 → (
    wX9_number σ l3 (fun r34 σ33 =>
    wX6_put σ33 r34 l5 (fun r36 σ35 =>
    Q r36 σ35
    )
    )
  )) ∧
  (l1 = 19 → (
    Q (4294967296 : Int64) σ
  )) ∧
  (l1 = 20 → (
    Q (4294967296 : Int64) σ
  )) ∧
  (l1 = 21 → (
    Q (4294967296 : Int64) σ
  )) ∧
  (l1 = 22 → (
    Q (4294967296 : Int64) σ
  )) ∧
  (l1 = 23 → (
    Q (4294967296 : Int64) σ
  )) ∧
  (l1 = 24 → (
    Q (4294967296 : Int64) σ
  )) ∧
  (l1 = 25 → (
    Q (4294967296 : Int64) σ
  )) ∧
  (l1 = 26 → (
    wX6_tell σ l3 (fun r38 σ37 =>
    Q r38 σ37
    )
  )) ∧
  (l1 = 27 → (
    Q (4294967296 : Int64) σ
  )) ∧
  (l1 = 28 → (
    Q (4294967296 : Int64) σ
  )) ∧
  (l1 = 29 → (
    Q (4294967296 : Int64) σ
  )) ∧
  (l1 = 30 → (
    wX7_read σ l2 (fun r40 σ39 =>
    Q r40 σ39
    )
  )) ∧
  (l1 = 31 → (
    wX6_put σ l2 l3 (fun r42 σ41 =>
    Q r42 σ41
    )
  )) ∧
  (¬ l1 = 10 → ¬ l1 = 11 → ¬ l1 = 12 → ¬ l1 = 13 → ¬ l1 = 14 → ¬ l1 = 15 → ¬ l1 = 16 → ¬ l1 = 17 → ¬ l1 = 18 → ¬ l1 = 19 → ¬ l1 = 20 → ¬ l1 = 21 → ¬ l1 = 22 → ¬ l1 = 23 → ¬ l1 = 24 → ¬ l1 = 25 → ¬ l1 = 26 → ¬ l1 = 27 → ¬ l1 = 28 → ¬ l1 = 29 → ¬ l1 = 30 → ¬ l1 = 31 → (
    Q (4294967296 : Int64) σ
  ))
set_option maxRecDepth 100000 in
set_option maxHeartbeats 4000000 in
theorem xX6_change {G : Gx} (hG : gLy G = LyC) {σ : Sg} {l1 : Int32} {l2 : Int32} {l3 : Int64} {l5 : Int64} {l7 : Int64} {Q : Int64 → Sg → Prop} (h : wX6_change σ l1 l2 l3 l5 l7 Q) : X G mX6_change 3 0 [(0, .ref (gad G 5)), (1, .int l1), (2, .int l2), (3, .long l3), (5, .long l5), (7, .long l7)] [] σ (ql Q) := by
  unfold wX6_change at h
  refine x_iload_n dX6_change_0 rfl 1 rfl ?_
  refine x_case (10 : Int32) (fun c => ?_) (fun c0 => ?_)
  · refine x_tblIn (10 : Int32) 104 c dX6_change_1 (by decide) (by decide) rfl (by decide) ?_
    replace h := h.1 c
    refine x_aload_n dX6_change_104 rfl 0 rfl ?_
    refine x_getR (q := 6) hG fg_X6_16 dX6_change_105 ?_
    refine x_iconst (v := (2 : Int32)) dX6_change_108 rfl ?_
    refine x_lload_n dX6_change_109 rfl 3 rfl ?_
    refine x_callSi [_] ms_X9_number lk_X6_166 rfl ⟨by decide, by decide⟩ rfl (Nat.le_of_ble_eq_true rfl) dX6_change_110 (ct_X9_number hG h) (fun r2 σ1 h => ?_)
    refine x_callVl [_, _] hG mv_X7_newRow lk_X6_285 rfl rfl rfl ⟨by decide, by decide⟩ rfl (Nat.le_of_ble_eq_true rfl) dX6_change_113 (ct_X7_newRow hG h) (fun r4 σ3 h => ?_)
    exact x_lret rfl dX6_change_116 ⟨_, rfl, h⟩
  replace h := h.2
  refine x_case (11 : Int32) (fun c => ?_) (fun c1 => ?_)
  · refine x_tblIn (11 : Int32) 117 c dX6_change_1 (by decide) (by decide) rfl (by decide) ?_
    replace h := h.1 c
    refine x_aload_n dX6_change_117 rfl 0 rfl ?_
    refine x_getR (q := 6) hG fg_X6_16 dX6_change_118 ?_
    refine x_iconst (v := (3 : Int32)) dX6_change_121 rfl ?_
    refine x_lload_n dX6_change_122 rfl 3 rfl ?_
    refine x_callSi [_] ms_X9_number lk_X6_166 rfl ⟨by decide, by decide⟩ rfl (Nat.le_of_ble_eq_true rfl) dX6_change_123 (ct_X9_number hG h) (fun r6 σ5 h => ?_)
    refine x_callVl [_, _] hG mv_X7_newRow lk_X6_285 rfl rfl rfl ⟨by decide, by decide⟩ rfl (Nat.le_of_ble_eq_true rfl) dX6_change_126 (ct_X7_newRow hG h) (fun r8 σ7 h => ?_)
    exact x_lret rfl dX6_change_129 ⟨_, rfl, h⟩
  replace h := h.2
  refine x_case (12 : Int32) (fun c => ?_) (fun c2 => ?_)
  · refine x_tblIn (12 : Int32) 130 c dX6_change_1 (by decide) (by decide) rfl (by decide) ?_
    replace h := h.1 c
    refine x_aload_n dX6_change_130 rfl 0 rfl ?_
    refine x_getR (q := 6) hG fg_X6_16 dX6_change_131 ?_
    refine x_iconst (v := (4 : Int32)) dX6_change_134 rfl ?_
    refine x_lload_n dX6_change_135 rfl 3 rfl ?_
    refine x_callSi [_] ms_X9_number lk_X6_166 rfl ⟨by decide, by decide⟩ rfl (Nat.le_of_ble_eq_true rfl) dX6_change_136 (ct_X9_number hG h) (fun r10 σ9 h => ?_)
    refine x_callVl [_, _] hG mv_X7_newRow lk_X6_285 rfl rfl rfl ⟨by decide, by decide⟩ rfl (Nat.le_of_ble_eq_true rfl) dX6_change_139 (ct_X7_newRow hG h) (fun r12 σ11 h => ?_)
    exact x_lret rfl dX6_change_142 ⟨_, rfl, h⟩
  replace h := h.2
  refine x_case (13 : Int32) (fun c => ?_) (fun c3 => ?_)
  · refine x_tblIn (13 : Int32) 143 c dX6_change_1 (by decide) (by decide) rfl (by decide) ?_
    replace h := h.1 c
    refine x_aload_n dX6_change_143 rfl 0 rfl ?_
    refine x_getR (q := 6) hG fg_X6_16 dX6_change_144 ?_
    refine x_iconst (v := (5 : Int32)) dX6_change_147 rfl ?_
    refine x_lload_n dX6_change_148 rfl 3 rfl ?_
    refine x_callVl [_, _] hG mv_X7_newLink lk_X6_288 rfl rfl rfl ⟨by decide, by decide⟩ rfl (Nat.le_of_ble_eq_true rfl) dX6_change_149 (ct_X7_newLink hG h) (fun r14 σ13 h => ?_)
    exact x_lret rfl dX6_change_152 ⟨_, rfl, h⟩
  replace h := h.2
  refine x_case (14 : Int32) (fun c => ?_) (fun c4 => ?_)
  · refine x_tblIn (14 : Int32) 153 c dX6_change_1 (by decide) (by decide) rfl (by decide) ?_
    replace h := h.1 c
    refine x_aload_n dX6_change_153 rfl 0 rfl ?_
    refine x_getR (q := 6) hG fg_X6_16 dX6_change_154 ?_
    refine x_bipush (v := (6 : Int32)) dX6_change_157 rfl ?_
    refine x_lload_n dX6_change_159 rfl 3 rfl ?_
    refine x_callVl [_, _] hG mv_X7_newLink lk_X6_288 rfl rfl rfl ⟨by decide, by decide⟩ rfl (Nat.le_of_ble_eq_true rfl) dX6_change_160 (ct_X7_newLink hG h) (fun r16 σ15 h => ?_)
    exact x_lret rfl dX6_change_163 ⟨_, rfl, h⟩
  replace h := h.2
  refine x_case (15 : Int32) (fun c => ?_) (fun c5 => ?_)
  · refine x_tblIn (15 : Int32) 164 c dX6_change_1 (by decide) (by decide) rfl (by decide) ?_
    replace h := h.1 c
    refine x_aload_n dX6_change_164 rfl 0 rfl ?_
    refine x_getR (q := 6) hG fg_X6_16 dX6_change_165 ?_
    refine x_lload_n dX6_change_168 rfl 3 rfl ?_
    refine x_lload dX6_change_169 4 rfl ?_
    refine x_callSi [_] ms_X9_number lk_X6_166 rfl ⟨by decide, by decide⟩ rfl (Nat.le_of_ble_eq_true rfl) dX6_change_171 (ct_X9_number hG h) (fun r18 σ17 h => ?_)
    refine x_callSi [_, _] ms_X7_cellOf lk_X6_292 rfl ⟨by decide, by decide⟩ rfl (Nat.le_of_ble_eq_true rfl) dX6_change_174 (ct_X7_cellOf hG h) (fun r20 σ19 h => ?_)
    refine x_callVl [_] hG mv_X7_read lk_X6_296 rfl rfl rfl ⟨by decide, by decide⟩ rfl (Nat.le_of_ble_eq_true rfl) dX6_change_177 (ct_X7_read hG h) (fun r22 σ21 h => ?_)
    exact x_lret rfl dX6_change_180 ⟨_, rfl, h⟩
  replace h := h.2
  refine x_case (16 : Int32) (fun c => ?_) (fun c6 => ?_)
  · refine x_tblIn (16 : Int32) 181 c dX6_change_1 (by decide) (by decide) rfl (by decide) ?_
    replace h := h.1 c
    refine x_aload_n dX6_change_181 rfl 0 rfl ?_
    refine x_lload_n dX6_change_182 rfl 3 rfl ?_
    refine x_lload dX6_change_183 4 rfl ?_
    refine x_callSi [_] ms_X9_number lk_X6_166 rfl ⟨by decide, by decide⟩ rfl (Nat.le_of_ble_eq_true rfl) dX6_change_185 (ct_X9_number hG h) (fun r24 σ23 h => ?_)
    refine x_callSi [_, _] ms_X7_cellOf lk_X6_292 rfl ⟨by decide, by decide⟩ rfl (Nat.le_of_ble_eq_true rfl) dX6_change_188 (ct_X7_cellOf hG h) (fun r26 σ25 h => ?_)
    refine x_lload dX6_change_191 5 rfl ?_
    refine x_callVl [_, _] hG mv_X6_put lk_X6_298 rfl rfl rfl ⟨by decide, by decide⟩ rfl (Nat.le_of_ble_eq_true rfl) dX6_change_193 (ct_X6_put hG h) (fun r28 σ27 h => ?_)
    exact x_lret rfl dX6_change_196 ⟨_, rfl, h⟩
  replace h := h.2
  refine x_case (17 : Int32) (fun c => ?_) (fun c7 => ?_)
  · refine x_tblIn (17 : Int32) 197 c dX6_change_1 (by decide) (by decide) rfl (by decide) ?_
    replace h := h.1 c
    refine x_aload_n dX6_change_197 rfl 0 rfl ?_
    refine x_getR (q := 6) hG fg_X6_16 dX6_change_198 ?_
    refine x_lload_n dX6_change_201 rfl 3 rfl ?_
    refine x_callSi [_] ms_X9_number lk_X6_166 rfl ⟨by decide, by decide⟩ rfl (Nat.le_of_ble_eq_true rfl) dX6_change_202 (ct_X9_number hG h) (fun r30 σ29 h => ?_)
    refine x_callVl [_] hG mv_X7_read lk_X6_296 rfl rfl rfl ⟨by decide, by decide⟩ rfl (Nat.le_of_ble_eq_true rfl) dX6_change_205 (ct_X7_read hG h) (fun r32 σ31 h => ?_)
    exact x_lret rfl dX6_change_208 ⟨_, rfl, h⟩
  replace h := h.2
  refine x_case (18 : Int32) (fun c => ?_) (fun c8 => ?_)
  · refine x_tblIn (18 : Int32) 209 c dX6_change_1 (by decide) (by decide) rfl (by decide) ?_
    replace h := h.1 c
    refine x_aload_n dX6_change_209 rfl 0 rfl ?_
    refine x_lload_n dX6_change_210 rfl 3 rfl ?_
    refine x_callSi [_] ms_X9_number lk_X6_166 rfl ⟨by decide, by decide⟩ rfl (Nat.le_of_ble_eq_true rfl) dX6_change_211 (ct_X9_number hG h) (fun r34 σ33 h => ?_)
    refine x_lload dX6_change_214 4 rfl ?_
    refine x_callVl [_, _] hG mv_X6_put lk_X6_298 rfl rfl rfl ⟨by decide, by decide⟩ rfl (Nat.le_of_ble_eq_true rfl) dX6_change_216 (ct_X6_put hG h) (fun r36 σ35 h => ?_)
    exact x_lret rfl dX6_change_219 ⟨_, rfl, h⟩
  replace h := h.2
  refine x_case (19 : Int32) (fun c => ?_) (fun c9 => ?_)
  · refine x_tblIn (19 : Int32) 242 c dX6_change_1 (by decide) (by decide) rfl (by decide) ?_
    replace h := h.1 c
    refine x_ldc2 dX6_change_242 cl_X6_218 ?_
    exact x_lret rfl dX6_change_245 ⟨_, rfl, h⟩
  replace h := h.2
  refine x_case (20 : Int32) (fun c => ?_) (fun c10 => ?_)
  · refine x_tblIn (20 : Int32) 242 c dX6_change_1 (by decide) (by decide) rfl (by decide) ?_
    replace h := h.1 c
    refine x_ldc2 dX6_change_242 cl_X6_218 ?_
    exact x_lret rfl dX6_change_245 ⟨_, rfl, h⟩
  replace h := h.2
  refine x_case (21 : Int32) (fun c => ?_) (fun c11 => ?_)
  · refine x_tblIn (21 : Int32) 242 c dX6_change_1 (by decide) (by decide) rfl (by decide) ?_
    replace h := h.1 c
    refine x_ldc2 dX6_change_242 cl_X6_218 ?_
    exact x_lret rfl dX6_change_245 ⟨_, rfl, h⟩
  replace h := h.2
  refine x_case (22 : Int32) (fun c => ?_) (fun c12 => ?_)
  · refine x_tblIn (22 : Int32) 242 c dX6_change_1 (by decide) (by decide) rfl (by decide) ?_
    replace h := h.1 c
    refine x_ldc2 dX6_change_242 cl_X6_218 ?_
    exact x_lret rfl dX6_change_245 ⟨_, rfl, h⟩
  replace h := h.2
  refine x_case (23 : Int32) (fun c => ?_) (fun c13 => ?_)
  · refine x_tblIn (23 : Int32) 242 c dX6_change_1 (by decide) (by decide) rfl (by decide) ?_
    replace h := h.1 c
    refine x_ldc2 dX6_change_242 cl_X6_218 ?_
    exact x_lret rfl dX6_change_245 ⟨_, rfl, h⟩
  replace h := h.2
  refine x_case (24 : Int32) (fun c => ?_) (fun c14 => ?_)
  · refine x_tblIn (24 : Int32) 242 c dX6_change_1 (by decide) (by decide) rfl (by decide) ?_
    replace h := h.1 c
    refine x_ldc2 dX6_change_242 cl_X6_218 ?_
    exact x_lret rfl dX6_change_245 ⟨_, rfl, h⟩
  replace h := h.2
  refine x_case (25 : Int32) (fun c => ?_) (fun c15 => ?_)
  · refine x_tblIn (25 : Int32) 242 c dX6_change_1 (by decide) (by decide) rfl (by decide) ?_
    replace h := h.1 c
    refine x_ldc2 dX6_change_242 cl_X6_218 ?_
    exact x_lret rfl dX6_change_245 ⟨_, rfl, h⟩
  replace h := h.2
  refine x_case (26 : Int32) (fun c => ?_) (fun c16 => ?_)
  · refine x_tblIn (26 : Int32) 220 c dX6_change_1 (by decide) (by decide) rfl (by decide) ?_
    replace h := h.1 c
    refine x_aload_n dX6_change_220 rfl 0 rfl ?_
    refine x_lload_n dX6_change_221 rfl 3 rfl ?_
    refine x_callVl [_] hG mv_X6_tell lk_X6_301 rfl rfl rfl ⟨by decide, by decide⟩ rfl (Nat.le_of_ble_eq_true rfl) dX6_change_222 (ct_X6_tell hG h) (fun r38 σ37 h => ?_)
    exact x_lret rfl dX6_change_225 ⟨_, rfl, h⟩
  replace h := h.2
  refine x_case (27 : Int32) (fun c => ?_) (fun c17 => ?_)
  · refine x_tblIn (27 : Int32) 242 c dX6_change_1 (by decide) (by decide) rfl (by decide) ?_
    replace h := h.1 c
    refine x_ldc2 dX6_change_242 cl_X6_218 ?_
    exact x_lret rfl dX6_change_245 ⟨_, rfl, h⟩
  replace h := h.2
  refine x_case (28 : Int32) (fun c => ?_) (fun c18 => ?_)
  · refine x_tblIn (28 : Int32) 242 c dX6_change_1 (by decide) (by decide) rfl (by decide) ?_
    replace h := h.1 c
    refine x_ldc2 dX6_change_242 cl_X6_218 ?_
    exact x_lret rfl dX6_change_245 ⟨_, rfl, h⟩
  replace h := h.2
  refine x_case (29 : Int32) (fun c => ?_) (fun c19 => ?_)
  · refine x_tblIn (29 : Int32) 242 c dX6_change_1 (by decide) (by decide) rfl (by decide) ?_
    replace h := h.1 c
    refine x_ldc2 dX6_change_242 cl_X6_218 ?_
    exact x_lret rfl dX6_change_245 ⟨_, rfl, h⟩
  replace h := h.2
  refine x_case (30 : Int32) (fun c => ?_) (fun c20 => ?_)
  · refine x_tblIn (30 : Int32) 226 c dX6_change_1 (by decide) (by decide) rfl (by decide) ?_
    replace h := h.1 c
    refine x_aload_n dX6_change_226 rfl 0 rfl ?_
    refine x_getR (q := 6) hG fg_X6_16 dX6_change_227 ?_
    refine x_iload_n dX6_change_230 rfl 2 rfl ?_
    refine x_callVl [_] hG mv_X7_read lk_X6_296 rfl rfl rfl ⟨by decide, by decide⟩ rfl (Nat.le_of_ble_eq_true rfl) dX6_change_231 (ct_X7_read hG h) (fun r40 σ39 h => ?_)
    exact x_lret rfl dX6_change_234 ⟨_, rfl, h⟩
  replace h := h.2
  refine x_case (31 : Int32) (fun c => ?_) (fun c21 => ?_)
  · refine x_tblIn (31 : Int32) 235 c dX6_change_1 (by decide) (by decide) rfl (by decide) ?_
    replace h := h.1 c
    refine x_aload_n dX6_change_235 rfl 0 rfl ?_
    refine x_iload_n dX6_change_236 rfl 2 rfl ?_
    refine x_lload_n dX6_change_237 rfl 3 rfl ?_
    refine x_callVl [_, _] hG mv_X6_put lk_X6_298 rfl rfl rfl ⟨by decide, by decide⟩ rfl (Nat.le_of_ble_eq_true rfl) dX6_change_238 (ct_X6_put hG h) (fun r42 σ41 h => ?_)
    exact x_lret rfl dX6_change_241 ⟨_, rfl, h⟩
  replace h := h.2
  replace h := h c0 c1 c2 c3 c4 c5 c6 c7 c8 c9 c10 c11 c12 c13 c14 c15 c16 c17 c18 c19 c20 c21
  refine x_tblOut [10, 11, 12, 13, 14, 15, 16, 17, 18, 19, 20, 21, 22, 23, 24, 25, 26, 27, 28, 29, 30, 31] 22 242 (by decide) (by decide) (List.forall_mem_cons.mpr ⟨c0, List.forall_mem_cons.mpr ⟨c1, List.forall_mem_cons.mpr ⟨c2, List.forall_mem_cons.mpr ⟨c3, List.forall_mem_cons.mpr ⟨c4, List.forall_mem_cons.mpr ⟨c5, List.forall_mem_cons.mpr ⟨c6, List.forall_mem_cons.mpr ⟨c7, List.forall_mem_cons.mpr ⟨c8, List.forall_mem_cons.mpr ⟨c9, List.forall_mem_cons.mpr ⟨c10, List.forall_mem_cons.mpr ⟨c11, List.forall_mem_cons.mpr ⟨c12, List.forall_mem_cons.mpr ⟨c13, List.forall_mem_cons.mpr ⟨c14, List.forall_mem_cons.mpr ⟨c15, List.forall_mem_cons.mpr ⟨c16, List.forall_mem_cons.mpr ⟨c17, List.forall_mem_cons.mpr ⟨c18, List.forall_mem_cons.mpr ⟨c19, List.forall_mem_cons.mpr ⟨c20, List.forall_mem_cons.mpr ⟨c21, fun _ h => absurd h List.not_mem_nil⟩⟩⟩⟩⟩⟩⟩⟩⟩⟩⟩⟩⟩⟩⟩⟩⟩⟩⟩⟩⟩⟩) dX6_change_1 (by decide) ?_
  refine x_ldc2 dX6_change_242 cl_X6_218 ?_
  exact x_lret rfl dX6_change_245 ⟨_, rfl, h⟩
theorem ct_X6_change {G : Gx} (hG : gLy G = LyC) {σ : Sg} {l1 : Int32} {l2 : Int32} {l3 : Int64} {l5 : Int64} {l7 : Int64} {Q : Int64 → Sg → Prop} (h : wX6_change σ l1 l2 l3 l5 l7 Q) : CT G mX6_change 3 [.ref (gad G 5), .int l1, .int l2, .long l3, .long l5, .long l7] σ (ql Q) := ct_of rfl (Nat.le_of_ble_eq_true rfl) rfl (xX6_change hG h)
/-! X6_workPlainly workPlainly -/
def wX6_workPlainly_71 (σ : Sg) (s1 : Int64) (Q : Sg → Prop) : Prop :=
  wX6_give σ s1 (fun σ1 =>
  Q σ1
  )
set_option maxRecDepth 100000 in
set_option maxHeartbeats 4000000 in
theorem xX6_workPlainly_71 {G : Gx} (hG : gLy G = LyC) {σ : Sg} {s1 : Int64} {Q : Sg → Prop} (h : wX6_workPlainly_71 σ s1 Q) : X G mX6_workPlainly 4 71 [] [.long s1, .ref (gad G 5)] σ (qv Q) := by
  unfold wX6_workPlainly_71 at h
  refine x_callVv [_] hG mv_X6_give lk_X6_177 rfl rfl rfl ⟨by decide, by decide⟩ rfl (Nat.le_of_ble_eq_true rfl) dX6_workPlainly_71 (ct_X6_give hG h) (fun σ1 h => ?_)
  exact x_vret rfl dX6_workPlainly_74 ⟨rfl, h⟩
def wX6_workPlainly (σ : Sg) (l1 : Int32) (Q : Sg → Prop) : Prop :=
  wX8_actOnTop σ (fun r2 σ1 =>
  wX0_given σ1 r2 (1 : Int32) (fun r4 σ3 =>
  wX8_value σ3 (0 : Int32) (fun r6 σ5 =>
  wX8_value σ5 (1 : Int32) (fun r8 σ7 =>
  ((9 : Int32) < l1 → (
    wX8_value σ7 (2 : Int32) (fun r10 σ9 =>
    wX6_change σ9 l1 r4 r6 r8 r10 (fun r12 σ11 =>
    wX6_workPlainly_71 σ11 r12 Q
    )
    )
  )) ∧ (¬ (9 : Int32) < l1 → (
    wX6_reckon σ7 l1 r4 r6 r8 (fun r14 σ13 =>
    wX6_workPlainly_71 σ13 r14 Q
    )
  ))
  )
  )
  )
  )
set_option maxRecDepth 100000 in
set_option maxHeartbeats 4000000 in
theorem xX6_workPlainly {G : Gx} (hG : gLy G = LyC) {σ : Sg} {l1 : Int32} {Q : Sg → Prop} (h : wX6_workPlainly σ l1 Q) : X G mX6_workPlainly 4 0 [(0, .ref (gad G 5)), (1, .int l1)] [] σ (qv Q) := by
  unfold wX6_workPlainly at h
  refine x_aload_n dX6_workPlainly_0 rfl 0 rfl ?_
  refine x_getR (q := 1) hG fg_X6_7 dX6_workPlainly_1 ?_
  refine x_aload_n dX6_workPlainly_4 rfl 0 rfl ?_
  refine x_getR (q := 21) hG fg_X6_52 dX6_workPlainly_5 ?_
  refine x_callVi [] hG mv_X8_actOnTop lk_X6_105 rfl rfl rfl ⟨by decide, by decide⟩ rfl (Nat.le_of_ble_eq_true rfl) dX6_workPlainly_8 (ct_X8_actOnTop hG h) (fun r2 σ1 h => ?_)
  refine x_iconst (v := (1 : Int32)) dX6_workPlainly_11 rfl ?_
  refine x_callVi [_, _] hG mv_X0_given lk_X6_144 rfl rfl rfl ⟨by decide, by decide⟩ rfl (Nat.le_of_ble_eq_true rfl) dX6_workPlainly_12 (ct_X0_given hG h) (fun r4 σ3 h => ?_)
  refine x_istore_n dX6_workPlainly_15 rfl (Nat.le_of_ble_eq_true rfl) (lv' := [(2, _), (0, _), (1, _)]) rfl ?_
  refine x_aload_n dX6_workPlainly_16 rfl 1 rfl ?_
  refine x_getR (q := 21) hG fg_X6_52 dX6_workPlainly_17 ?_
  refine x_iconst (v := (0 : Int32)) dX6_workPlainly_20 rfl ?_
  refine x_callVl [_] hG mv_X8_value lk_X6_150 rfl rfl rfl ⟨by decide, by decide⟩ rfl (Nat.le_of_ble_eq_true rfl) dX6_workPlainly_21 (ct_X8_value hG h) (fun r6 σ5 h => ?_)
  refine x_lstore_n dX6_workPlainly_24 rfl (Nat.le_of_ble_eq_true rfl) (lv' := [(3, _), (2, _), (0, _), (1, _)]) rfl ?_
  refine x_aload_n dX6_workPlainly_25 rfl 2 rfl ?_
  refine x_getR (q := 21) hG fg_X6_52 dX6_workPlainly_26 ?_
  refine x_iconst (v := (1 : Int32)) dX6_workPlainly_29 rfl ?_
  refine x_callVl [_] hG mv_X8_value lk_X6_150 rfl rfl rfl ⟨by decide, by decide⟩ rfl (Nat.le_of_ble_eq_true rfl) dX6_workPlainly_30 (ct_X8_value hG h) (fun r8 σ7 h => ?_)
  refine x_lstore dX6_workPlainly_33 (Nat.le_of_ble_eq_true rfl) (lv' := [(5, _), (3, _), (2, _), (0, _), (1, _)]) rfl ?_
  refine x_aload_n dX6_workPlainly_35 rfl 3 rfl ?_
  refine x_iload_n dX6_workPlainly_36 rfl 4 rfl ?_
  refine x_bipush (v := (9 : Int32)) dX6_workPlainly_37 rfl ?_
  refine x_icmp_gt dX6_workPlainly_39 54 (by decide) (fun c => ?_) (fun c => ?_)
  · replace h := h.1 c
    refine x_aload_n dX6_workPlainly_54 rfl 3 rfl ?_
    refine x_iload_n dX6_workPlainly_55 rfl 4 rfl ?_
    refine x_iload_n dX6_workPlainly_56 rfl 2 rfl ?_
    refine x_lload_n dX6_workPlainly_57 rfl 1 rfl ?_
    refine x_lload dX6_workPlainly_58 0 rfl ?_
    refine x_aload_n dX6_workPlainly_60 rfl 3 rfl ?_
    refine x_getR (q := 21) hG fg_X6_52 dX6_workPlainly_61 ?_
    refine x_iconst (v := (2 : Int32)) dX6_workPlainly_64 rfl ?_
    refine x_callVl [_] hG mv_X8_value lk_X6_150 rfl rfl rfl ⟨by decide, by decide⟩ rfl (Nat.le_of_ble_eq_true rfl) dX6_workPlainly_65 (ct_X8_value hG h) (fun r10 σ9 h => ?_)
    refine x_callVl [_, _, _, _, _] hG mv_X6_change lk_X6_271 rfl rfl rfl ⟨by decide, by decide⟩ rfl (Nat.le_of_ble_eq_true rfl) dX6_workPlainly_68 (ct_X6_change hG h) (fun r12 σ11 h => ?_)
    exact x_sub [] rfl (xX6_workPlainly_71 hG h)
  · replace h := h.2 c
    refine x_aload_n dX6_workPlainly_42 rfl 3 rfl ?_
    refine x_iload_n dX6_workPlainly_43 rfl 4 rfl ?_
    refine x_iload_n dX6_workPlainly_44 rfl 2 rfl ?_
    refine x_lload_n dX6_workPlainly_45 rfl 1 rfl ?_
    refine x_lload dX6_workPlainly_46 0 rfl ?_
    refine x_callVl [_, _, _, _] hG mv_X6_reckon lk_X6_267 rfl rfl rfl ⟨by decide, by decide⟩ rfl (Nat.le_of_ble_eq_true rfl) dX6_workPlainly_48 (ct_X6_reckon hG h) (fun r14 σ13 h => ?_)
    refine x_goto dX6_workPlainly_51 71 (by decide) ?_
    exact x_sub [] rfl (xX6_workPlainly_71 hG h)
theorem ct_X6_workPlainly {G : Gx} (hG : gLy G = LyC) {σ : Sg} {l1 : Int32} {Q : Sg → Prop} (h : wX6_workPlainly σ l1 Q) : CT G mX6_workPlainly 4 [.ref (gad G 5), .int l1] σ (qv Q) := ct_of rfl (Nat.le_of_ble_eq_true rfl) rfl (xX6_workPlainly hG h)
/-! X6_work work -/
def wX6_work_241 (σ : Sg) (l1 : Int32) (Q : Sg → Prop) : Prop :=
  wX6_workPlainly σ l1 (fun σ1 =>
  Q σ1
  )
set_option maxRecDepth 100000 in
set_option maxHeartbeats 4000000 in
theorem xX6_work_241 {G : Gx} (hG : gLy G = LyC) {σ : Sg} {l1 : Int32} {Q : Sg → Prop} (h : wX6_work_241 σ l1 Q) : X G mX6_work 6 241 [(0, .ref (gad G 5)), (1, .int l1)] [] σ (qv Q) := by
  unfold wX6_work_241 at h
  refine x_aload_n dX6_work_241 rfl 0 rfl ?_
  refine x_iload_n dX6_work_242 rfl 1 rfl ?_
  refine x_callVv [_] hG mv_X6_workPlainly lk_X6_201 rfl rfl rfl ⟨by decide, by decide⟩ rfl (Nat.le_of_ble_eq_true rfl) dX6_work_243 (ct_X6_workPlainly hG h) (fun σ1 h => ?_)
  exact x_vret rfl dX6_work_246 ⟨rfl, h⟩
def wX6_work (σ : Sg) (Q : Sg → Prop) : Prop :=
  wX8_actOnTop σ (fun r2 σ1 =>
  wX0_given σ1 r2 (0 : Int32) (fun r4 σ3 =>
  (r4 = 4 → (
    wX6_keep σ3 (fun σ5 =>
    Q σ5
    )
  )) ∧
  (r4 = 5 → (
    wX6_work_241 σ3 r4 Q
  )) ∧
  (r4 = 6 → (
    wX6_work_241 σ3 r4 Q
  )) ∧
  (r4 = 7 → (
    wX6_work_241 σ3 r4 Q
  )) ∧
  (r4 = 8 → (
    wX6_work_241 σ3 r4 Q
  )) ∧
  (r4 = 9 → (
    wX6_work_241 σ3 r4 Q
  )) ∧
  (r4 = 10 → (
    wX6_work_241 σ3 r4 Q
  )) ∧
  (r4 = 11 → (
    wX6_work_241 σ3 r4 Q
  )) ∧
  (r4 = 12 → (
    wX6_work_241 σ3 r4 Q
  )) ∧
  (r4 = 13 → (
    wX6_work_241 σ3 r4 Q
  )) ∧
  (r4 = 14 → (
    wX6_work_241 σ3 r4 Q
  )) ∧
  (r4 = 15 → (
    wX6_work_241 σ3 r4 Q
  )) ∧
  (r4 = 16 → (
    wX6_work_241 σ3 r4 Q
  )) ∧
  (r4 = 17 → (
    wX6_work_241 σ3 r4 Q
  )) ∧
  (r4 = 18 → (
    wX6_work_241 σ3 r4 Q
  )) ∧
  (r4 = 19 → (
    wX6_copy σ3 (fun σ6 =>
    Q σ6
    )
  )) ∧
  (r4 = 20 → (
    wX6_work_241 σ3 r4 Q
  )) ∧
  (r4 = 21 → (
    wX8_stage σ3 (fun r8 σ7 =>
    wX8_value σ7 (r8 - (1 : Int32)) (fun r10 σ9 =>
    wX6_give σ9 r10 (fun σ11 =>
    Q σ11
    )
    )
    )
  )) ∧
  (r4 = 22 → (
    wX6_doAlways σ3 (fun σ12 =>
    Q σ12
    )
  )) ∧
  (r4 = 23 → (
    wX6_choose σ3 (fun σ13 =>
    Q σ13
    )
  )) ∧
  (r4 = 24 → (
    wX6_loop σ3 (fun σ14 =>
    Q σ14
    )
  )) ∧
  (r4 = 25 → (
    wX6_call σ3 (fun σ15 =>
    Q σ15
    )
  )) ∧
  (r4 = 26 → (
    wX6_work_241 σ3 r4 Q
  )) ∧
  (r4 = 27 → (
    wX6_delay σ3 (fun σ16 =>
    Q σ16
    )
  )) ∧
  (r4 = 28 → (
    wX8_value σ3 (0 : Int32) (fun r18 σ17 =>
    wX9_number σ17 r18 (fun r20 σ19 =>
    wX6_force σ19 r20 (fun σ21 =>
    Q σ21
    )
    )
    )
  )) ∧
  (r4 = 29 → (
    wX8_value σ3 (0 : Int32) (fun r23 σ22 =>
    wX6_give σ22 r23 (fun σ24 =>
    Q σ24
    )
    )
  )) ∧
  (¬ r4 = 4 → ¬ r4 = 5 → ¬ r4 = 6 → ¬ r4 = 7 → ¬ r4 = 8 → ¬ r4 = 9 → ¬ r4 = 10 → ¬ r4 = 11 → ¬ r4 = 12 → ¬ r4 = 13 → ¬ r4 = 14 → ¬ r4 = 15 → ¬ r4 = 16 → ¬ r4 = 17 → ¬ r4 = 18 → ¬ r4 = 19 → ¬ r4 = 20 → ¬ r4 = 21 → ¬ r4 = 22 → ¬ r4 = 23 → ¬ r4 = 24 → ¬ r4 = 25 → ¬ r4 = 26 → ¬ r4 = 27 → ¬ r4 = 28 → ¬ r4 = 29 → (
    wX6_work_241 σ3 r4 Q
  ))
  )
  )
set_option maxRecDepth 100000 in
set_option maxHeartbeats 4000000 in
theorem xX6_work {G : Gx} (hG : gLy G = LyC) {σ : Sg} {Q : Sg → Prop} (h : wX6_work σ Q) : X G mX6_work 6 0 [(0, .ref (gad G 5))] [] σ (qv Q) := by
  unfold wX6_work at h
  refine x_aload_n dX6_work_0 rfl 0 rfl ?_
  refine x_getR (q := 1) hG fg_X6_7 dX6_work_1 ?_
  refine x_aload_n dX6_work_4 rfl 0 rfl ?_
  refine x_getR (q := 21) hG fg_X6_52 dX6_work_5 ?_
  refine x_callVi [] hG mv_X8_actOnTop lk_X6_105 rfl rfl rfl ⟨by decide, by decide⟩ rfl (Nat.le_of_ble_eq_true rfl) dX6_work_8 (ct_X8_actOnTop hG h) (fun r2 σ1 h => ?_)
  refine x_iconst (v := (0 : Int32)) dX6_work_11 rfl ?_
  refine x_callVi [_, _] hG mv_X0_given lk_X6_144 rfl rfl rfl ⟨by decide, by decide⟩ rfl (Nat.le_of_ble_eq_true rfl) dX6_work_12 (ct_X0_given hG h) (fun r4 σ3 h => ?_)
  refine x_istore_n dX6_work_15 rfl (Nat.le_of_ble_eq_true rfl) (lv' := [(1, _), (0, _)]) rfl ?_
  refine x_iload_n dX6_work_16 rfl 0 rfl ?_
  refine x_case (4 : Int32) (fun c => ?_) (fun c0 => ?_)
  · refine x_tblIn (4 : Int32) 136 c dX6_work_17 (by decide) (by decide) rfl (by decide) ?_
    replace h := h.1 c
    refine x_aload_n dX6_work_136 rfl 1 rfl ?_
    refine x_callVv [] hG mv_X6_keep lk_X6_174 rfl rfl rfl ⟨by decide, by decide⟩ rfl (Nat.le_of_ble_eq_true rfl) dX6_work_137 (ct_X6_keep hG h) (fun σ5 h => ?_)
    refine x_goto dX6_work_140 246 (by decide) ?_
    exact x_vret rfl dX6_work_246 ⟨rfl, h⟩
  replace h := h.2
  refine x_case (5 : Int32) (fun c => ?_) (fun c1 => ?_)
  · refine x_tblIn (5 : Int32) 241 c dX6_work_17 (by decide) (by decide) rfl (by decide) ?_
    replace h := h.1 c
    exact x_sub [1, 0] rfl (xX6_work_241 hG h)
  replace h := h.2
  refine x_case (6 : Int32) (fun c => ?_) (fun c2 => ?_)
  · refine x_tblIn (6 : Int32) 241 c dX6_work_17 (by decide) (by decide) rfl (by decide) ?_
    replace h := h.1 c
    exact x_sub [1, 0] rfl (xX6_work_241 hG h)
  replace h := h.2
  refine x_case (7 : Int32) (fun c => ?_) (fun c3 => ?_)
  · refine x_tblIn (7 : Int32) 241 c dX6_work_17 (by decide) (by decide) rfl (by decide) ?_
    replace h := h.1 c
    exact x_sub [1, 0] rfl (xX6_work_241 hG h)
  replace h := h.2
  refine x_case (8 : Int32) (fun c => ?_) (fun c4 => ?_)
  · refine x_tblIn (8 : Int32) 241 c dX6_work_17 (by decide) (by decide) rfl (by decide) ?_
    replace h := h.1 c
    exact x_sub [1, 0] rfl (xX6_work_241 hG h)
  replace h := h.2
  refine x_case (9 : Int32) (fun c => ?_) (fun c5 => ?_)
  · refine x_tblIn (9 : Int32) 241 c dX6_work_17 (by decide) (by decide) rfl (by decide) ?_
    replace h := h.1 c
    exact x_sub [1, 0] rfl (xX6_work_241 hG h)
  replace h := h.2
  refine x_case (10 : Int32) (fun c => ?_) (fun c6 => ?_)
  · refine x_tblIn (10 : Int32) 241 c dX6_work_17 (by decide) (by decide) rfl (by decide) ?_
    replace h := h.1 c
    exact x_sub [1, 0] rfl (xX6_work_241 hG h)
  replace h := h.2
  refine x_case (11 : Int32) (fun c => ?_) (fun c7 => ?_)
  · refine x_tblIn (11 : Int32) 241 c dX6_work_17 (by decide) (by decide) rfl (by decide) ?_
    replace h := h.1 c
    exact x_sub [1, 0] rfl (xX6_work_241 hG h)
  replace h := h.2
  refine x_case (12 : Int32) (fun c => ?_) (fun c8 => ?_)
  · refine x_tblIn (12 : Int32) 241 c dX6_work_17 (by decide) (by decide) rfl (by decide) ?_
    replace h := h.1 c
    exact x_sub [1, 0] rfl (xX6_work_241 hG h)
  replace h := h.2
  refine x_case (13 : Int32) (fun c => ?_) (fun c9 => ?_)
  · refine x_tblIn (13 : Int32) 241 c dX6_work_17 (by decide) (by decide) rfl (by decide) ?_
    replace h := h.1 c
    exact x_sub [1, 0] rfl (xX6_work_241 hG h)
  replace h := h.2
  refine x_case (14 : Int32) (fun c => ?_) (fun c10 => ?_)
  · refine x_tblIn (14 : Int32) 241 c dX6_work_17 (by decide) (by decide) rfl (by decide) ?_
    replace h := h.1 c
    exact x_sub [1, 0] rfl (xX6_work_241 hG h)
  replace h := h.2
  refine x_case (15 : Int32) (fun c => ?_) (fun c11 => ?_)
  · refine x_tblIn (15 : Int32) 241 c dX6_work_17 (by decide) (by decide) rfl (by decide) ?_
    replace h := h.1 c
    exact x_sub [1, 0] rfl (xX6_work_241 hG h)
  replace h := h.2
  refine x_case (16 : Int32) (fun c => ?_) (fun c12 => ?_)
  · refine x_tblIn (16 : Int32) 241 c dX6_work_17 (by decide) (by decide) rfl (by decide) ?_
    replace h := h.1 c
    exact x_sub [1, 0] rfl (xX6_work_241 hG h)
  replace h := h.2
  refine x_case (17 : Int32) (fun c => ?_) (fun c13 => ?_)
  · refine x_tblIn (17 : Int32) 241 c dX6_work_17 (by decide) (by decide) rfl (by decide) ?_
    replace h := h.1 c
    exact x_sub [1, 0] rfl (xX6_work_241 hG h)
  replace h := h.2
  refine x_case (18 : Int32) (fun c => ?_) (fun c14 => ?_)
  · refine x_tblIn (18 : Int32) 241 c dX6_work_17 (by decide) (by decide) rfl (by decide) ?_
    replace h := h.1 c
    exact x_sub [1, 0] rfl (xX6_work_241 hG h)
  replace h := h.2
  refine x_case (19 : Int32) (fun c => ?_) (fun c15 => ?_)
  · refine x_tblIn (19 : Int32) 234 c dX6_work_17 (by decide) (by decide) rfl (by decide) ?_
    replace h := h.1 c
    refine x_aload_n dX6_work_234 rfl 1 rfl ?_
    refine x_callVv [] hG mv_X6_copy lk_X6_198 rfl rfl rfl ⟨by decide, by decide⟩ rfl (Nat.le_of_ble_eq_true rfl) dX6_work_235 (ct_X6_copy hG h) (fun σ6 h => ?_)
    refine x_goto dX6_work_238 246 (by decide) ?_
    exact x_vret rfl dX6_work_246 ⟨rfl, h⟩
  replace h := h.2
  refine x_case (20 : Int32) (fun c => ?_) (fun c16 => ?_)
  · refine x_tblIn (20 : Int32) 241 c dX6_work_17 (by decide) (by decide) rfl (by decide) ?_
    replace h := h.1 c
    exact x_sub [1, 0] rfl (xX6_work_241 hG h)
  replace h := h.2
  refine x_case (21 : Int32) (fun c => ?_) (fun c17 => ?_)
  · refine x_tblIn (21 : Int32) 143 c dX6_work_17 (by decide) (by decide) rfl (by decide) ?_
    replace h := h.1 c
    refine x_aload_n dX6_work_143 rfl 1 rfl ?_
    refine x_aload_n dX6_work_144 rfl 1 rfl ?_
    refine x_getR (q := 21) hG fg_X6_52 dX6_work_145 ?_
    refine x_aload_n dX6_work_148 rfl 1 rfl ?_
    refine x_getR (q := 21) hG fg_X6_52 dX6_work_149 ?_
    refine x_callVi [] hG mv_X8_stage lk_X6_138 rfl rfl rfl ⟨by decide, by decide⟩ rfl (Nat.le_of_ble_eq_true rfl) dX6_work_152 (ct_X8_stage hG h) (fun r8 σ7 h => ?_)
    refine x_iconst (v := (1 : Int32)) dX6_work_155 rfl ?_
    refine x_isub dX6_work_156 ?_
    refine x_callVl [_] hG mv_X8_value lk_X6_150 rfl rfl rfl ⟨by decide, by decide⟩ rfl (Nat.le_of_ble_eq_true rfl) dX6_work_157 (ct_X8_value hG h) (fun r10 σ9 h => ?_)
    refine x_callVv [_] hG mv_X6_give lk_X6_177 rfl rfl rfl ⟨by decide, by decide⟩ rfl (Nat.le_of_ble_eq_true rfl) dX6_work_160 (ct_X6_give hG h) (fun σ11 h => ?_)
    refine x_goto dX6_work_163 246 (by decide) ?_
    exact x_vret rfl dX6_work_246 ⟨rfl, h⟩
  replace h := h.2
  refine x_case (22 : Int32) (fun c => ?_) (fun c18 => ?_)
  · refine x_tblIn (22 : Int32) 166 c dX6_work_17 (by decide) (by decide) rfl (by decide) ?_
    replace h := h.1 c
    refine x_aload_n dX6_work_166 rfl 1 rfl ?_
    refine x_callVv [] hG mv_X6_doAlways lk_X6_180 rfl rfl rfl ⟨by decide, by decide⟩ rfl (Nat.le_of_ble_eq_true rfl) dX6_work_167 (ct_X6_doAlways hG h) (fun σ12 h => ?_)
    refine x_goto dX6_work_170 246 (by decide) ?_
    exact x_vret rfl dX6_work_246 ⟨rfl, h⟩
  replace h := h.2
  refine x_case (23 : Int32) (fun c => ?_) (fun c19 => ?_)
  · refine x_tblIn (23 : Int32) 173 c dX6_work_17 (by decide) (by decide) rfl (by decide) ?_
    replace h := h.1 c
    refine x_aload_n dX6_work_173 rfl 1 rfl ?_
    refine x_callVv [] hG mv_X6_choose lk_X6_183 rfl rfl rfl ⟨by decide, by decide⟩ rfl (Nat.le_of_ble_eq_true rfl) dX6_work_174 (ct_X6_choose hG h) (fun σ13 h => ?_)
    refine x_goto dX6_work_177 246 (by decide) ?_
    exact x_vret rfl dX6_work_246 ⟨rfl, h⟩
  replace h := h.2
  refine x_case (24 : Int32) (fun c => ?_) (fun c20 => ?_)
  · refine x_tblIn (24 : Int32) 180 c dX6_work_17 (by decide) (by decide) rfl (by decide) ?_
    replace h := h.1 c
    refine x_aload_n dX6_work_180 rfl 1 rfl ?_
    refine x_callVv [] hG mv_X6_loop lk_X6_186 rfl rfl rfl ⟨by decide, by decide⟩ rfl (Nat.le_of_ble_eq_true rfl) dX6_work_181 (ct_X6_loop hG h) (fun σ14 h => ?_)
    refine x_goto dX6_work_184 246 (by decide) ?_
    exact x_vret rfl dX6_work_246 ⟨rfl, h⟩
  replace h := h.2
  refine x_case (25 : Int32) (fun c => ?_) (fun c21 => ?_)
  · refine x_tblIn (25 : Int32) 187 c dX6_work_17 (by decide) (by decide) rfl (by decide) ?_
    replace h := h.1 c
    refine x_aload_n dX6_work_187 rfl 1 rfl ?_
    refine x_callVv [] hG mv_X6_call lk_X6_189 rfl rfl rfl ⟨by decide, by decide⟩ rfl (Nat.le_of_ble_eq_true rfl) dX6_work_188 (ct_X6_call hG h) (fun σ15 h => ?_)
    refine x_goto dX6_work_191 246 (by decide) ?_
    exact x_vret rfl dX6_work_246 ⟨rfl, h⟩
  replace h := h.2
  refine x_case (26 : Int32) (fun c => ?_) (fun c22 => ?_)
  · refine x_tblIn (26 : Int32) 241 c dX6_work_17 (by decide) (by decide) rfl (by decide) ?_
    replace h := h.1 c
    exact x_sub [1, 0] rfl (xX6_work_241 hG h)
  replace h := h.2
  refine x_case (27 : Int32) (fun c => ?_) (fun c23 => ?_)
  · refine x_tblIn (27 : Int32) 194 c dX6_work_17 (by decide) (by decide) rfl (by decide) ?_
    replace h := h.1 c
    refine x_aload_n dX6_work_194 rfl 1 rfl ?_
    refine x_callVv [] hG mv_X6_delay lk_X6_192 rfl rfl rfl ⟨by decide, by decide⟩ rfl (Nat.le_of_ble_eq_true rfl) dX6_work_195 (ct_X6_delay hG h) (fun σ16 h => ?_)
    refine x_goto dX6_work_198 246 (by decide) ?_
    exact x_vret rfl dX6_work_246 ⟨rfl, h⟩
  replace h := h.2
  refine x_case (28 : Int32) (fun c => ?_) (fun c24 => ?_)
  · refine x_tblIn (28 : Int32) 201 c dX6_work_17 (by decide) (by decide) rfl (by decide) ?_
    replace h := h.1 c
    refine x_aload_n dX6_work_201 rfl 1 rfl ?_
    refine x_aload_n dX6_work_202 rfl 1 rfl ?_
    refine x_getR (q := 21) hG fg_X6_52 dX6_work_203 ?_
    refine x_iconst (v := (0 : Int32)) dX6_work_206 rfl ?_
    refine x_callVl [_] hG mv_X8_value lk_X6_150 rfl rfl rfl ⟨by decide, by decide⟩ rfl (Nat.le_of_ble_eq_true rfl) dX6_work_207 (ct_X8_value hG h) (fun r18 σ17 h => ?_)
    refine x_callSi [_] ms_X9_number lk_X6_166 rfl ⟨by decide, by decide⟩ rfl (Nat.le_of_ble_eq_true rfl) dX6_work_210 (ct_X9_number hG h) (fun r20 σ19 h => ?_)
    refine x_callVv [_] hG mv_X6_force lk_X6_195 rfl rfl rfl ⟨by decide, by decide⟩ rfl (Nat.le_of_ble_eq_true rfl) dX6_work_213 (ct_X6_force hG h) (fun σ21 h => ?_)
    refine x_goto dX6_work_216 246 (by decide) ?_
    exact x_vret rfl dX6_work_246 ⟨rfl, h⟩
  replace h := h.2
  refine x_case (29 : Int32) (fun c => ?_) (fun c25 => ?_)
  · refine x_tblIn (29 : Int32) 219 c dX6_work_17 (by decide) (by decide) rfl (by decide) ?_
    replace h := h.1 c
    refine x_aload_n dX6_work_219 rfl 1 rfl ?_
    refine x_aload_n dX6_work_220 rfl 1 rfl ?_
    refine x_getR (q := 21) hG fg_X6_52 dX6_work_221 ?_
    refine x_iconst (v := (0 : Int32)) dX6_work_224 rfl ?_
    refine x_callVl [_] hG mv_X8_value lk_X6_150 rfl rfl rfl ⟨by decide, by decide⟩ rfl (Nat.le_of_ble_eq_true rfl) dX6_work_225 (ct_X8_value hG h) (fun r23 σ22 h => ?_)
    refine x_callVv [_] hG mv_X6_give lk_X6_177 rfl rfl rfl ⟨by decide, by decide⟩ rfl (Nat.le_of_ble_eq_true rfl) dX6_work_228 (ct_X6_give hG h) (fun σ24 h => ?_)
    refine x_goto dX6_work_231 246 (by decide) ?_
    exact x_vret rfl dX6_work_246 ⟨rfl, h⟩
  replace h := h.2
  replace h := h c0 c1 c2 c3 c4 c5 c6 c7 c8 c9 c10 c11 c12 c13 c14 c15 c16 c17 c18 c19 c20 c21 c22 c23 c24 c25
  refine x_tblOut [4, 5, 6, 7, 8, 9, 10, 11, 12, 13, 14, 15, 16, 17, 18, 19, 20, 21, 22, 23, 24, 25, 26, 27, 28, 29] 26 241 (by decide) (by decide) (List.forall_mem_cons.mpr ⟨c0, List.forall_mem_cons.mpr ⟨c1, List.forall_mem_cons.mpr ⟨c2, List.forall_mem_cons.mpr ⟨c3, List.forall_mem_cons.mpr ⟨c4, List.forall_mem_cons.mpr ⟨c5, List.forall_mem_cons.mpr ⟨c6, List.forall_mem_cons.mpr ⟨c7, List.forall_mem_cons.mpr ⟨c8, List.forall_mem_cons.mpr ⟨c9, List.forall_mem_cons.mpr ⟨c10, List.forall_mem_cons.mpr ⟨c11, List.forall_mem_cons.mpr ⟨c12, List.forall_mem_cons.mpr ⟨c13, List.forall_mem_cons.mpr ⟨c14, List.forall_mem_cons.mpr ⟨c15, List.forall_mem_cons.mpr ⟨c16, List.forall_mem_cons.mpr ⟨c17, List.forall_mem_cons.mpr ⟨c18, List.forall_mem_cons.mpr ⟨c19, List.forall_mem_cons.mpr ⟨c20, List.forall_mem_cons.mpr ⟨c21, List.forall_mem_cons.mpr ⟨c22, List.forall_mem_cons.mpr ⟨c23, List.forall_mem_cons.mpr ⟨c24, List.forall_mem_cons.mpr ⟨c25, fun _ h => absurd h List.not_mem_nil⟩⟩⟩⟩⟩⟩⟩⟩⟩⟩⟩⟩⟩⟩⟩⟩⟩⟩⟩⟩⟩⟩⟩⟩⟩⟩) dX6_work_17 (by decide) ?_
  exact x_sub [1, 0] rfl (xX6_work_241 hG h)
theorem ct_X6_work {G : Gx} (hG : gLy G = LyC) {σ : Sg} {Q : Sg → Prop} (h : wX6_work σ Q) : CT G mX6_work 6 [.ref (gad G 5)] σ (qv Q) := ct_of rfl (Nat.le_of_ble_eq_true rfl) rfl (xX6_work hG h)
/-! X6_perform perform -/
def wX6_perform_19 : Nat → Sg → Int32 → (Sg → Prop) → Prop
  | 0 => fun _ _ _ => False
  | n + 1 => fun σ l3 Q =>
  (l3 < (100000 : Int32) → (
    wX8_isEmpty σ (fun r2 σ1 =>
    (r2 = 0 → (
      ((sI σ1 10 3) = 0 → (
        wX6_comesToWork σ1 (fun r4 σ3 =>
        (r4 = 0 → (
          wX6_perform_19 n σ3 (l3 + (1 : Int32)) Q
        )) ∧ (¬ r4 = 0 → (
          wX6_work σ3 (fun σ5 =>
          wX6_perform_19 n σ5 (l3 + (1 : Int32)) Q
          )
        ))
        )
      )) ∧ (¬ (sI σ1 10 3) = 0 → (
        wX6_leave σ1 (fun σ6 =>
        wX6_perform_19 n σ6 (l3 + (1 : Int32)) Q
        )
      ))
    )) ∧ (¬ r2 = 0 → (
      Q σ1
    ))
    )
  )) ∧ (¬ l3 < (100000 : Int32) → (
    Q σ
  ))
set_option maxRecDepth 100000 in
set_option maxHeartbeats 4000000 in
theorem xX6_perform_19 {G : Gx} (hG : gLy G = LyC) {Q : Sg → Prop} (n : Nat) : ∀ {σ : Sg} {l3 : Int32}, wX6_perform_19 n σ l3 Q → X G mX6_perform 7 19 [(0, .ref (gad G 5)), (3, .int l3)] [] σ (qv Q) := by
  induction n with
  | zero => intro σ l3 h; exact False.elim h
  | succ n ih =>
  intro σ l3 h
  unfold wX6_perform_19 at h
  refine x_iload_n dX6_perform_19 rfl 1 rfl ?_
  refine x_ldc dX6_perform_20 ci_X6_77 ?_
  refine x_icmp_ge dX6_perform_22 69 (by decide) (fun c => ?_) (fun c => ?_)
  · replace h := h.1 c
    refine x_aload_n dX6_perform_25 rfl 0 rfl ?_
    refine x_getR (q := 21) hG fg_X6_52 dX6_perform_26 ?_
    refine x_callVi [] hG mv_X8_isEmpty lk_X6_78 rfl rfl rfl ⟨by decide, by decide⟩ rfl (Nat.le_of_ble_eq_true rfl) dX6_perform_29 (ct_X8_isEmpty hG h) (fun r2 σ1 h => ?_)
    refine x_if_ne dX6_perform_32 69 (by decide) (fun c => ?_) (fun c => ?_)
    · replace h := h.1 c
      refine x_aload_n dX6_perform_35 rfl 0 rfl ?_
      refine x_getR (q := 10) hG fg_X6_23 dX6_perform_36 ?_
      refine x_getIv hG fg_X6_82 dX6_perform_39 rfl ?_
      refine x_if_eq dX6_perform_42 52 (by decide) (fun c => ?_) (fun c => ?_)
      · replace h := h.1 c
        refine x_aload_n dX6_perform_52 rfl 0 rfl ?_
        refine x_callVi [] hG mv_X6_comesToWork lk_X6_88 rfl rfl rfl ⟨by decide, by decide⟩ rfl (Nat.le_of_ble_eq_true rfl) dX6_perform_53 (ct_X6_comesToWork hG h) (fun r4 σ3 h => ?_)
        refine x_if_eq dX6_perform_56 63 (by decide) (fun c => ?_) (fun c => ?_)
        · replace h := h.1 c
          refine x_iinc dX6_perform_63 1 rfl (v := _ + (1 : Int32)) rfl (Nat.le_of_ble_eq_true rfl) (lv' := [(3, _), (0, _)]) rfl ?_
          refine x_goto dX6_perform_66 19 (by decide) ?_
          exact x_sub [1, 0] rfl (ih h)
        · replace h := h.2 c
          refine x_aload_n dX6_perform_59 rfl 0 rfl ?_
          refine x_callVv [] hG mv_X6_work lk_X6_91 rfl rfl rfl ⟨by decide, by decide⟩ rfl (Nat.le_of_ble_eq_true rfl) dX6_perform_60 (ct_X6_work hG h) (fun σ5 h => ?_)
          refine x_iinc dX6_perform_63 1 rfl (v := _ + (1 : Int32)) rfl (Nat.le_of_ble_eq_true rfl) (lv' := [(3, _), (0, _)]) rfl ?_
          refine x_goto dX6_perform_66 19 (by decide) ?_
          exact x_sub [1, 0] rfl (ih h)
      · replace h := h.2 c
        refine x_aload_n dX6_perform_45 rfl 0 rfl ?_
        refine x_callVv [] hG mv_X6_leave lk_X6_85 rfl rfl rfl ⟨by decide, by decide⟩ rfl (Nat.le_of_ble_eq_true rfl) dX6_perform_46 (ct_X6_leave hG h) (fun σ6 h => ?_)
        refine x_goto dX6_perform_49 63 (by decide) ?_
        refine x_iinc dX6_perform_63 1 rfl (v := _ + (1 : Int32)) rfl (Nat.le_of_ble_eq_true rfl) (lv' := [(3, _), (0, _)]) rfl ?_
        refine x_goto dX6_perform_66 19 (by decide) ?_
        exact x_sub [1, 0] rfl (ih h)
    · replace h := h.2 c
      exact x_vret rfl dX6_perform_69 ⟨rfl, h⟩
  · replace h := h.2 c
    exact x_vret rfl dX6_perform_69 ⟨rfl, h⟩
def wX6_perform (σ : Sg) (l1 : Int32) (l2 : Int32) (Q : Sg → Prop) : Prop :=
  wX6_restart σ l2 (fun σ1 =>
  wX3_open σ1 (fun r3 σ2 =>
  wX6_begin σ2 l1 r3 (fun σ4 =>
  ∃ n, wX6_perform_19 n σ4 (0 : Int32) Q
  )
  )
  )
set_option maxRecDepth 100000 in
set_option maxHeartbeats 4000000 in
theorem xX6_perform {G : Gx} (hG : gLy G = LyC) {σ : Sg} {l1 : Int32} {l2 : Int32} {Q : Sg → Prop} (h : wX6_perform σ l1 l2 Q) : X G mX6_perform 7 0 [(0, .ref (gad G 5)), (1, .int l1), (2, .int l2)] [] σ (qv Q) := by
  unfold wX6_perform at h
  refine x_aload_n dX6_perform_0 rfl 0 rfl ?_
  refine x_iload_n dX6_perform_1 rfl 2 rfl ?_
  refine x_callVv [_] hG mv_X6_restart lk_X6_68 rfl rfl rfl ⟨by decide, by decide⟩ rfl (Nat.le_of_ble_eq_true rfl) dX6_perform_2 (ct_X6_restart hG h) (fun σ1 h => ?_)
  refine x_aload_n dX6_perform_5 rfl 0 rfl ?_
  refine x_iload_n dX6_perform_6 rfl 1 rfl ?_
  refine x_aload_n dX6_perform_7 rfl 0 rfl ?_
  refine x_getR (q := 12) hG fg_X6_38 dX6_perform_8 ?_
  refine x_callVi [] hG mv_X3_open lk_X6_69 rfl rfl rfl ⟨by decide, by decide⟩ rfl (Nat.le_of_ble_eq_true rfl) dX6_perform_11 (ct_X3_open hG h) (fun r3 σ2 h => ?_)
  refine x_callVv [_, _] hG mv_X6_begin lk_X6_73 rfl rfl rfl ⟨by decide, by decide⟩ rfl (Nat.le_of_ble_eq_true rfl) dX6_perform_14 (ct_X6_begin hG h) (fun σ4 h => ?_)
  refine x_iconst (v := (0 : Int32)) dX6_perform_17 rfl ?_
  refine x_istore_n dX6_perform_18 rfl (Nat.le_of_ble_eq_true rfl) (lv' := [(3, _), (0, _), (1, _), (2, _)]) rfl ?_
  obtain ⟨n, h⟩ := h
  exact x_sub [1, 0] rfl (xX6_perform_19 hG n h)
theorem ct_X6_perform {G : Gx} (hG : gLy G = LyC) {σ : Sg} {l1 : Int32} {l2 : Int32} {Q : Sg → Prop} (h : wX6_perform σ l1 l2 Q) : CT G mX6_perform 7 [.ref (gad G 5), .int l1, .int l2] σ (qv Q) := ct_of rfl (Nat.le_of_ble_eq_true rfl) rfl (xX6_perform hG h)
