/-! X1_goOn goOn -/
def wX1_goOn (σ : Sg) (l1 : Int32) (l2 : Int32) (l3 : Int32) (Q : Sg → Prop) : Prop :=
  let σ1 := wI σ 10 3 l1
  let σ2 := wI σ1 10 4 l2
  let σ3 := wI σ2 10 5 l3
  Q σ3
set_option maxRecDepth 100000 in
set_option maxHeartbeats 4000000 in
theorem xX1_goOn {G : Gx} (hG : gLy G = LyC) {σ : Sg} {l1 : Int32} {l2 : Int32} {l3 : Int32} {Q : Sg → Prop} (h : wX1_goOn σ l1 l2 l3 Q) : X G mX1_goOn 1 0 [(0, .ref (gad G 10)), (1, .int l1), (2, .int l2), (3, .int l3)] [] σ (qv Q) := by
  unfold wX1_goOn at h
  refine x_aload_n dX1_goOn_0 rfl 0 rfl ?_
  refine x_iload_n dX1_goOn_1 rfl 1 rfl ?_
  refine x_putI hG fp_X1_38 dX1_goOn_2 ?_
  refine x_aload_n dX1_goOn_5 rfl 0 rfl ?_
  refine x_iload_n dX1_goOn_6 rfl 2 rfl ?_
  refine x_putI hG fp_X1_41 dX1_goOn_7 ?_
  refine x_aload_n dX1_goOn_10 rfl 0 rfl ?_
  refine x_iload_n dX1_goOn_11 rfl 3 rfl ?_
  refine x_putI hG fp_X1_44 dX1_goOn_12 ?_
  exact x_vret rfl dX1_goOn_15 ⟨rfl, h⟩
theorem ct_X1_goOn {G : Gx} (hG : gLy G = LyC) {σ : Sg} {l1 : Int32} {l2 : Int32} {l3 : Int32} {Q : Sg → Prop} (h : wX1_goOn σ l1 l2 l3 Q) : CT G mX1_goOn 1 [.ref (gad G 10), .int l1, .int l2, .int l3] σ (qv Q) := ct_of rfl (Nat.le_of_ble_eq_true rfl) rfl (xX1_goOn hG h)
/-! X1_settle settle -/
def wX1_settle (σ : Sg) (Q : Sg → Prop) : Prop :=
  wX1_goOn σ (0 : Int32) (0 : Int32) (-1 : Int32) (fun σ1 =>
  Q σ1
  )
set_option maxRecDepth 100000 in
set_option maxHeartbeats 4000000 in
theorem xX1_settle {G : Gx} (hG : gLy G = LyC) {σ : Sg} {Q : Sg → Prop} (h : wX1_settle σ Q) : X G mX1_settle 2 0 [(0, .ref (gad G 10))] [] σ (qv Q) := by
  unfold wX1_settle at h
  refine x_aload_n dX1_settle_0 rfl 0 rfl ?_
  refine x_iconst (v := (0 : Int32)) dX1_settle_1 rfl ?_
  refine x_iconst (v := (0 : Int32)) dX1_settle_2 rfl ?_
  refine x_iconst (v := (-1 : Int32)) dX1_settle_3 rfl ?_
  refine x_callVv [_, _, _] hG mv_X1_goOn lk_X1_34 rfl rfl rfl ⟨by decide, by decide⟩ rfl (Nat.le_of_ble_eq_true rfl) dX1_settle_4 (ct_X1_goOn hG h) (fun σ1 h => ?_)
  exact x_vret rfl dX1_settle_7 ⟨rfl, h⟩
theorem ct_X1_settle {G : Gx} (hG : gLy G = LyC) {σ : Sg} {Q : Sg → Prop} (h : wX1_settle σ Q) : CT G mX1_settle 2 [.ref (gad G 10)] σ (qv Q) := ct_of rfl (Nat.le_of_ble_eq_true rfl) rfl (xX1_settle hG h)
/-! X1_restart restart -/
def wX1_restart (σ : Sg) (l1 : Int32) (Q : Sg → Prop) : Prop :=
  let σ1 := wI σ 10 0 l1
  let σ2 := wI σ1 10 1 (0 : Int32)
  let σ3 := wI σ2 10 2 (0 : Int32)
  let σ4 := wL σ3 10 6 (4294967296 : Int64)
  wX1_settle σ4 (fun σ5 =>
  Q σ5
  )
set_option maxRecDepth 100000 in
set_option maxHeartbeats 4000000 in
theorem xX1_restart {G : Gx} (hG : gLy G = LyC) {σ : Sg} {l1 : Int32} {Q : Sg → Prop} (h : wX1_restart σ l1 Q) : X G mX1_restart 3 0 [(0, .ref (gad G 10)), (1, .int l1)] [] σ (qv Q) := by
  unfold wX1_restart at h
  refine x_aload_n dX1_restart_0 rfl 0 rfl ?_
  refine x_iload_n dX1_restart_1 rfl 1 rfl ?_
  refine x_putI hG fp_X1_13 dX1_restart_2 ?_
  refine x_aload_n dX1_restart_5 rfl 0 rfl ?_
  refine x_iconst (v := (0 : Int32)) dX1_restart_6 rfl ?_
  refine x_putI hG fp_X1_17 dX1_restart_7 ?_
  refine x_aload_n dX1_restart_10 rfl 0 rfl ?_
  refine x_iconst (v := (0 : Int32)) dX1_restart_11 rfl ?_
  refine x_putI hG fp_X1_20 dX1_restart_12 ?_
  refine x_aload_n dX1_restart_15 rfl 0 rfl ?_
  refine x_ldc2 dX1_restart_16 cl_X1_25 ?_
  refine x_putL hG fp_X1_27 dX1_restart_19 ?_
  refine x_aload_n dX1_restart_22 rfl 0 rfl ?_
  refine x_callVv [] hG mv_X1_settle lk_X1_31 rfl rfl rfl ⟨by decide, by decide⟩ rfl (Nat.le_of_ble_eq_true rfl) dX1_restart_23 (ct_X1_settle hG h) (fun σ5 h => ?_)
  exact x_vret rfl dX1_restart_26 ⟨rfl, h⟩
theorem ct_X1_restart {G : Gx} (hG : gLy G = LyC) {σ : Sg} {l1 : Int32} {Q : Sg → Prop} (h : wX1_restart σ l1 Q) : CT G mX1_restart 3 [.ref (gad G 10), .int l1] σ (qv Q) := ct_of rfl (Nat.le_of_ble_eq_true rfl) rfl (xX1_restart hG h)
/-! X1_end end -/
def wX1_end (σ : Sg) (l1 : Int32) (l2 : Int32) (Q : Sg → Prop) : Prop :=
  wX1_goOn σ l1 (0 : Int32) l2 (fun σ1 =>
  Q σ1
  )
set_option maxRecDepth 100000 in
set_option maxHeartbeats 4000000 in
theorem xX1_end {G : Gx} (hG : gLy G = LyC) {σ : Sg} {l1 : Int32} {l2 : Int32} {Q : Sg → Prop} (h : wX1_end σ l1 l2 Q) : X G mX1_end 2 0 [(0, .ref (gad G 10)), (1, .int l1), (2, .int l2)] [] σ (qv Q) := by
  unfold wX1_end at h
  refine x_aload_n dX1_end_0 rfl 0 rfl ?_
  refine x_iload_n dX1_end_1 rfl 1 rfl ?_
  refine x_iconst (v := (0 : Int32)) dX1_end_2 rfl ?_
  refine x_iload_n dX1_end_3 rfl 2 rfl ?_
  refine x_callVv [_, _, _] hG mv_X1_goOn lk_X1_34 rfl rfl rfl ⟨by decide, by decide⟩ rfl (Nat.le_of_ble_eq_true rfl) dX1_end_4 (ct_X1_goOn hG h) (fun σ1 h => ?_)
  exact x_vret rfl dX1_end_7 ⟨rfl, h⟩
theorem ct_X1_end {G : Gx} (hG : gLy G = LyC) {σ : Sg} {l1 : Int32} {l2 : Int32} {Q : Sg → Prop} (h : wX1_end σ l1 l2 Q) : CT G mX1_end 2 [.ref (gad G 10), .int l1, .int l2] σ (qv Q) := ct_of rfl (Nat.le_of_ble_eq_true rfl) rfl (xX1_end hG h)
/-! X1_arise arise -/
def wX1_arise_52 (σ : Sg) (l3 : Int32) (s1 : Int32) (Q : Sg → Prop) : Prop :=
  let σ1 := wI σ 10 4 s1
  let σ2 := wI σ1 10 5 l3
  Q σ2
set_option maxRecDepth 100000 in
set_option maxHeartbeats 4000000 in
theorem xX1_arise_52 {G : Gx} (hG : gLy G = LyC) {σ : Sg} {l3 : Int32} {s1 : Int32} {Q : Sg → Prop} (h : wX1_arise_52 σ l3 s1 Q) : X G mX1_arise 1 52 [(0, .ref (gad G 10)), (3, .int l3)] [.int s1, .ref (gad G 10)] σ (qv Q) := by
  unfold wX1_arise_52 at h
  refine x_putI hG fp_X1_41 dX1_arise_52 ?_
  refine x_aload_n dX1_arise_55 rfl 0 rfl ?_
  refine x_iload_n dX1_arise_56 rfl 1 rfl ?_
  refine x_putI hG fp_X1_44 dX1_arise_57 ?_
  exact x_vret rfl dX1_arise_60 ⟨rfl, h⟩
def wX1_arise_38 (σ : Sg) (l2 : Int32) (l3 : Int32) (l4 : Int32) (s1 : Int32) (Q : Sg → Prop) : Prop :=
  let σ1 := wI σ 10 3 s1
  (l4 = 0 → (
    wX1_arise_52 σ1 l3 l2 Q
  )) ∧ (¬ l4 = 0 → (
    wX1_arise_52 σ1 l3 (0 : Int32) Q
  ))
set_option maxRecDepth 100000 in
set_option maxHeartbeats 4000000 in
theorem xX1_arise_38 {G : Gx} (hG : gLy G = LyC) {σ : Sg} {l2 : Int32} {l3 : Int32} {l4 : Int32} {s1 : Int32} {Q : Sg → Prop} (h : wX1_arise_38 σ l2 l3 l4 s1 Q) : X G mX1_arise 1 38 [(0, .ref (gad G 10)), (2, .int l2), (3, .int l3), (4, .int l4)] [.int s1, .ref (gad G 10)] σ (qv Q) := by
  unfold wX1_arise_38 at h
  refine x_putI hG fp_X1_38 dX1_arise_38 ?_
  refine x_aload_n dX1_arise_41 rfl 0 rfl ?_
  refine x_iload dX1_arise_42 3 rfl ?_
  refine x_if_eq dX1_arise_44 51 (by decide) (fun c => ?_) (fun c => ?_)
  · replace h := h.1 c
    refine x_iload_n dX1_arise_51 rfl 1 rfl ?_
    exact x_sub [0, 2] rfl (xX1_arise_52 hG h)
  · replace h := h.2 c
    refine x_iconst (v := (0 : Int32)) dX1_arise_47 rfl ?_
    refine x_goto dX1_arise_48 52 (by decide) ?_
    exact x_sub [0, 2] rfl (xX1_arise_52 hG h)
def wX1_arise_24 (σ : Sg) (l1 : Int32) (l2 : Int32) (l3 : Int32) (s0 : Int32) (Q : Sg → Prop) : Prop :=
  (s0 = 0 → (
    wX1_arise_38 σ l2 l3 s0 l1 Q
  )) ∧ (¬ s0 = 0 → (
    wX1_arise_38 σ l2 l3 s0 (10 : Int32) Q
  ))
set_option maxRecDepth 100000 in
set_option maxHeartbeats 4000000 in
theorem xX1_arise_24 {G : Gx} (hG : gLy G = LyC) {σ : Sg} {l1 : Int32} {l2 : Int32} {l3 : Int32} {s0 : Int32} {Q : Sg → Prop} (h : wX1_arise_24 σ l1 l2 l3 s0 Q) : X G mX1_arise 1 24 [(0, .ref (gad G 10)), (1, .int l1), (2, .int l2), (3, .int l3)] [.int s0] σ (qv Q) := by
  unfold wX1_arise_24 at h
  refine x_istore dX1_arise_24 (Nat.le_of_ble_eq_true rfl) (lv' := [(4, _), (0, _), (1, _), (2, _), (3, _)]) rfl ?_
  refine x_aload_n dX1_arise_26 rfl 1 rfl ?_
  refine x_iload dX1_arise_27 0 rfl ?_
  refine x_if_eq dX1_arise_29 37 (by decide) (fun c => ?_) (fun c => ?_)
  · replace h := h.1 c
    refine x_iload_n dX1_arise_37 rfl 2 rfl ?_
    exact x_sub [1, 3, 4, 0] rfl (xX1_arise_38 hG h)
  · replace h := h.2 c
    refine x_bipush (v := (10 : Int32)) dX1_arise_32 rfl ?_
    refine x_goto dX1_arise_34 38 (by decide) ?_
    exact x_sub [1, 3, 4, 0] rfl (xX1_arise_38 hG h)
def wX1_arise (σ : Sg) (l1 : Int32) (l2 : Int32) (l3 : Int32) (Q : Sg → Prop) : Prop :=
  let σ1 := wI σ 10 2 ((sI σ 10 2) + (1 : Int32))
  ((20 : Int32) < ((sI σ 10 2) + (1 : Int32)) → (
    wX1_arise_24 σ1 l1 l2 l3 (1 : Int32) Q
  )) ∧ (¬ (20 : Int32) < ((sI σ 10 2) + (1 : Int32)) → (
    wX1_arise_24 σ1 l1 l2 l3 (0 : Int32) Q
  ))
set_option maxRecDepth 100000 in
set_option maxHeartbeats 4000000 in
theorem xX1_arise {G : Gx} (hG : gLy G = LyC) {σ : Sg} {l1 : Int32} {l2 : Int32} {l3 : Int32} {Q : Sg → Prop} (h : wX1_arise σ l1 l2 l3 Q) : X G mX1_arise 1 0 [(0, .ref (gad G 10)), (1, .int l1), (2, .int l2), (3, .int l3)] [] σ (qv Q) := by
  unfold wX1_arise at h
  refine x_aload_n dX1_arise_0 rfl 0 rfl ?_
  refine x_dup dX1_arise_1 rfl ?_
  refine x_getIv hG fg_X1_20 dX1_arise_2 rfl ?_
  refine x_iconst (v := (1 : Int32)) dX1_arise_5 rfl ?_
  refine x_iadd dX1_arise_6 ?_
  refine x_putI hG fp_X1_20 dX1_arise_7 ?_
  refine x_aload_n dX1_arise_10 rfl 0 rfl ?_
  refine x_getIv hG fg_X1_20 dX1_arise_11 rd_hit ?_
  refine x_bipush (v := (20 : Int32)) dX1_arise_14 rfl ?_
  refine x_icmp_le dX1_arise_16 23 (by decide) (fun c => ?_) (fun c => ?_)
  · replace h := h.1 c
    refine x_iconst (v := (1 : Int32)) dX1_arise_19 rfl ?_
    refine x_goto dX1_arise_20 24 (by decide) ?_
    exact x_sub [0, 1, 2, 3] rfl (xX1_arise_24 hG h)
  · replace h := h.2 c
    refine x_iconst (v := (0 : Int32)) dX1_arise_23 rfl ?_
    exact x_sub [0, 1, 2, 3] rfl (xX1_arise_24 hG h)
theorem ct_X1_arise {G : Gx} (hG : gLy G = LyC) {σ : Sg} {l1 : Int32} {l2 : Int32} {l3 : Int32} {Q : Sg → Prop} (h : wX1_arise σ l1 l2 l3 Q) : CT G mX1_arise 1 [.ref (gad G 10), .int l1, .int l2, .int l3] σ (qv Q) := ct_of rfl (Nat.le_of_ble_eq_true rfl) rfl (xX1_arise hG h)
/-! X1_takesStep takesStep -/
def wX1_takesStep (σ : Sg) (l1 : Int32) (Q : Int32 → Sg → Prop) : Prop :=
  ((sI σ 10 1) < (sI σ 10 0) → (
    let σ1 := wI σ 10 1 ((sI σ 10 1) + (1 : Int32))
    Q (1 : Int32) σ1
  )) ∧ (¬ (sI σ 10 1) < (sI σ 10 0) → (
    let σ2 := wI σ 10 3 (9 : Int32)
    let σ3 := wI σ2 10 4 (0 : Int32)
    let σ4 := wI σ3 10 5 l1
    Q (0 : Int32) σ4
  ))
set_option maxRecDepth 100000 in
set_option maxHeartbeats 4000000 in
theorem xX1_takesStep {G : Gx} (hG : gLy G = LyC) {σ : Sg} {l1 : Int32} {Q : Int32 → Sg → Prop} (h : wX1_takesStep σ l1 Q) : X G mX1_takesStep 1 0 [(0, .ref (gad G 10)), (1, .int l1)] [] σ (qi Q) := by
  unfold wX1_takesStep at h
  refine x_aload_n dX1_takesStep_0 rfl 0 rfl ?_
  refine x_getIv hG fg_X1_17 dX1_takesStep_1 rfl ?_
  refine x_aload_n dX1_takesStep_4 rfl 0 rfl ?_
  refine x_getIv hG fg_X1_13 dX1_takesStep_5 rfl ?_
  refine x_icmp_ge dX1_takesStep_8 23 (by decide) (fun c => ?_) (fun c => ?_)
  · replace h := h.1 c
    refine x_aload_n dX1_takesStep_11 rfl 0 rfl ?_
    refine x_dup dX1_takesStep_12 rfl ?_
    refine x_getIv hG fg_X1_17 dX1_takesStep_13 rfl ?_
    refine x_iconst (v := (1 : Int32)) dX1_takesStep_16 rfl ?_
    refine x_iadd dX1_takesStep_17 ?_
    refine x_putI hG fp_X1_17 dX1_takesStep_18 ?_
    refine x_iconst (v := (1 : Int32)) dX1_takesStep_21 rfl ?_
    exact x_zret rfl bz_1 dX1_takesStep_22 ⟨_, rfl, h⟩
  · replace h := h.2 c
    refine x_aload_n dX1_takesStep_23 rfl 0 rfl ?_
    refine x_bipush (v := (9 : Int32)) dX1_takesStep_24 rfl ?_
    refine x_putI hG fp_X1_38 dX1_takesStep_26 ?_
    refine x_aload_n dX1_takesStep_29 rfl 0 rfl ?_
    refine x_iconst (v := (0 : Int32)) dX1_takesStep_30 rfl ?_
    refine x_putI hG fp_X1_41 dX1_takesStep_31 ?_
    refine x_aload_n dX1_takesStep_34 rfl 0 rfl ?_
    refine x_iload_n dX1_takesStep_35 rfl 1 rfl ?_
    refine x_putI hG fp_X1_44 dX1_takesStep_36 ?_
    refine x_iconst (v := (0 : Int32)) dX1_takesStep_39 rfl ?_
    exact x_zret rfl bz_0 dX1_takesStep_40 ⟨_, rfl, h⟩
theorem ct_X1_takesStep {G : Gx} (hG : gLy G = LyC) {σ : Sg} {l1 : Int32} {Q : Int32 → Sg → Prop} (h : wX1_takesStep σ l1 Q) : CT G mX1_takesStep 1 [.ref (gad G 10), .int l1] σ (qi Q) := ct_of rfl (Nat.le_of_ble_eq_true rfl) rfl (xX1_takesStep hG h)
/-! X1_isFailing isFailing -/
def wX1_isFailing (σ : Sg) (Q : Int32 → Sg → Prop) : Prop :=
  (0 < (sI σ 10 3) → (
    ((sI σ 10 3) < (9 : Int32) → (
      Q (1 : Int32) σ
    )) ∧ (¬ (sI σ 10 3) < (9 : Int32) → (
      Q (0 : Int32) σ
    ))
  )) ∧ (¬ 0 < (sI σ 10 3) → (
    Q (0 : Int32) σ
  ))
set_option maxRecDepth 100000 in
set_option maxHeartbeats 4000000 in
theorem xX1_isFailing {G : Gx} (hG : gLy G = LyC) {σ : Sg} {Q : Int32 → Sg → Prop} (h : wX1_isFailing σ Q) : X G mX1_isFailing 1 0 [(0, .ref (gad G 10))] [] σ (qi Q) := by
  unfold wX1_isFailing at h
  refine x_aload_n dX1_isFailing_0 rfl 0 rfl ?_
  refine x_getIv hG fg_X1_38 dX1_isFailing_1 rfl ?_
  refine x_if_le dX1_isFailing_4 20 (by decide) (fun c => ?_) (fun c => ?_)
  · replace h := h.1 c
    refine x_aload_n dX1_isFailing_7 rfl 0 rfl ?_
    refine x_getIv hG fg_X1_38 dX1_isFailing_8 rfl ?_
    refine x_bipush (v := (9 : Int32)) dX1_isFailing_11 rfl ?_
    refine x_icmp_ge dX1_isFailing_13 20 (by decide) (fun c => ?_) (fun c => ?_)
    · replace h := h.1 c
      refine x_iconst (v := (1 : Int32)) dX1_isFailing_16 rfl ?_
      refine x_goto dX1_isFailing_17 21 (by decide) ?_
      exact x_zret rfl bz_1 dX1_isFailing_21 ⟨_, rfl, h⟩
    · replace h := h.2 c
      refine x_iconst (v := (0 : Int32)) dX1_isFailing_20 rfl ?_
      exact x_zret rfl bz_0 dX1_isFailing_21 ⟨_, rfl, h⟩
  · replace h := h.2 c
    refine x_iconst (v := (0 : Int32)) dX1_isFailing_20 rfl ?_
    exact x_zret rfl bz_0 dX1_isFailing_21 ⟨_, rfl, h⟩
theorem ct_X1_isFailing {G : Gx} (hG : gLy G = LyC) {σ : Sg} {Q : Int32 → Sg → Prop} (h : wX1_isFailing σ Q) : CT G mX1_isFailing 1 [.ref (gad G 10)] σ (qi Q) := ct_of rfl (Nat.le_of_ble_eq_true rfl) rfl (xX1_isFailing hG h)
