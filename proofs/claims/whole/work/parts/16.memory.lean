/-! X7_restart restart -/
def wX7_restart_2 : Nat → Sg → Int32 → (Sg → Prop) → Prop
  | 0 => fun _ _ _ => False
  | n + 1 => fun σ l1 Q =>
  (l1 < (8 : Int32) → (
    vp_in l1 1708 ∧
    let σ1 := wL σ 7 (l1).toNatClampNeg (4294967296 : Int64)
    wX7_restart_2 n σ1 (l1 + (1 : Int32)) Q
  )) ∧ (¬ l1 < (8 : Int32) → (
    let σ2 := wI σ 6 3 (8 : Int32)
    let σ3 := wI σ2 6 4 (0 : Int32)
    Q σ3
  ))
set_option maxRecDepth 100000 in
set_option maxHeartbeats 4000000 in
theorem xX7_restart_2 {G : Gx} (hG : gLy G = LyC) {Q : Sg → Prop} (n : Nat) : ∀ {σ : Sg} {l1 : Int32}, wX7_restart_2 n σ l1 Q → X G mX7_restart 1 2 [(0, .ref (gad G 6)), (1, .int l1)] [] σ (qv Q) := by
  induction n with
  | zero => intro σ l1 h; exact False.elim h
  | succ n ih =>
  intro σ l1 h
  unfold wX7_restart_2 at h
  refine x_iload_n dX7_restart_2 rfl 1 rfl ?_
  refine x_bipush (v := (8 : Int32)) dX7_restart_3 rfl ?_
  refine x_icmp_ge dX7_restart_5 23 (by decide) (fun c => ?_) (fun c => ?_)
  · replace h := h.1 c
    refine x_aload_n dX7_restart_8 rfl 0 rfl ?_
    refine x_getR (q := 7) hG fg_X7_11 dX7_restart_9 ?_
    refine x_iload_n dX7_restart_12 rfl 1 rfl ?_
    refine x_ldc2 dX7_restart_13 cl_X7_31 ?_
    refine x_last hG rfl dX7_restart_16 h.1 ?_
    replace h := h.2
    refine x_iinc dX7_restart_17 1 rfl (v := _ + (1 : Int32)) rfl (Nat.le_of_ble_eq_true rfl) (lv' := [(1, _), (0, _)]) rfl ?_
    refine x_goto dX7_restart_20 2 (by decide) ?_
    exact x_sub [1, 0] rfl (ih h)
  · replace h := h.2 c
    refine x_aload_n dX7_restart_23 rfl 0 rfl ?_
    refine x_bipush (v := (8 : Int32)) dX7_restart_24 rfl ?_
    refine x_putI hG fp_X7_33 dX7_restart_26 ?_
    refine x_aload_n dX7_restart_29 rfl 0 rfl ?_
    refine x_iconst (v := (0 : Int32)) dX7_restart_30 rfl ?_
    refine x_putI hG fp_X7_37 dX7_restart_31 ?_
    exact x_vret rfl dX7_restart_34 ⟨rfl, h⟩
def wX7_restart (σ : Sg) (Q : Sg → Prop) : Prop :=
  ∃ n, wX7_restart_2 n σ (0 : Int32) Q
set_option maxRecDepth 100000 in
set_option maxHeartbeats 4000000 in
theorem xX7_restart {G : Gx} (hG : gLy G = LyC) {σ : Sg} {Q : Sg → Prop} (h : wX7_restart σ Q) : X G mX7_restart 1 0 [(0, .ref (gad G 6))] [] σ (qv Q) := by
  unfold wX7_restart at h
  refine x_iconst (v := (0 : Int32)) dX7_restart_0 rfl ?_
  refine x_istore_n dX7_restart_1 rfl (Nat.le_of_ble_eq_true rfl) (lv' := [(1, _), (0, _)]) rfl ?_
  obtain ⟨n, h⟩ := h
  exact x_sub [1, 0] rfl (xX7_restart_2 hG n h)
theorem ct_X7_restart {G : Gx} (hG : gLy G = LyC) {σ : Sg} {Q : Sg → Prop} (h : wX7_restart σ Q) : CT G mX7_restart 1 [.ref (gad G 6)] σ (qv Q) := ct_of rfl (Nat.le_of_ble_eq_true rfl) rfl (xX7_restart hG h)
/-! X7_changesSoFar changesSoFar -/
def wX7_changesSoFar (σ : Sg) (Q : Int32 → Sg → Prop) : Prop :=
  Q (sI σ 6 4) σ
set_option maxRecDepth 100000 in
set_option maxHeartbeats 4000000 in
theorem xX7_changesSoFar {G : Gx} (hG : gLy G = LyC) {σ : Sg} {Q : Int32 → Sg → Prop} (h : wX7_changesSoFar σ Q) : X G mX7_changesSoFar 1 0 [(0, .ref (gad G 6))] [] σ (qi Q) := by
  unfold wX7_changesSoFar at h
  refine x_aload_n dX7_changesSoFar_0 rfl 0 rfl ?_
  refine x_getIv hG fg_X7_37 dX7_changesSoFar_1 rfl ?_
  exact x_iret rfl dX7_changesSoFar_4 ⟨_, rfl, h⟩
theorem ct_X7_changesSoFar {G : Gx} (hG : gLy G = LyC) {σ : Sg} {Q : Int32 → Sg → Prop} (h : wX7_changesSoFar σ Q) : CT G mX7_changesSoFar 1 [.ref (gad G 6)] σ (qi Q) := ct_of rfl (Nat.le_of_ble_eq_true rfl) rfl (xX7_changesSoFar hG h)
/-! X7_undoBackTo undoBackTo -/
def wX7_undoBackTo_0 : Nat → Sg → Int32 → (Sg → Prop) → Prop
  | 0 => fun _ _ _ => False
  | n + 1 => fun σ l1 Q =>
  (l1 < (sI σ 6 4) → (
    (0 < (sI σ 6 4) → (
      let σ1 := wI σ 6 4 ((sI σ 6 4) - (1 : Int32))
      vp_in ((sI σ 6 4) - (1 : Int32)) 1700 ∧
      vp_in ((sI σ 6 4) - (1 : Int32)) 1700 ∧
      vp_in (sI σ 8 (((sI σ 6 4) - (1 : Int32))).toNatClampNeg) 1708 ∧
      let σ2 := wL σ1 7 ((sI σ 8 (((sI σ 6 4) - (1 : Int32))).toNatClampNeg)).toNatClampNeg (sL σ 9 (((sI σ 6 4) - (1 : Int32))).toNatClampNeg)
      wX7_undoBackTo_0 n σ2 l1 Q
    )) ∧ (¬ 0 < (sI σ 6 4) → (
      Q σ
    ))
  )) ∧ (¬ l1 < (sI σ 6 4) → (
    Q σ
  ))
set_option maxRecDepth 100000 in
set_option maxHeartbeats 4000000 in
theorem xX7_undoBackTo_0 {G : Gx} (hG : gLy G = LyC) {Q : Sg → Prop} (n : Nat) : ∀ {σ : Sg} {l1 : Int32}, wX7_undoBackTo_0 n σ l1 Q → X G mX7_undoBackTo 1 0 [(0, .ref (gad G 6)), (1, .int l1)] [] σ (qv Q) := by
  induction n with
  | zero => intro σ l1 h; exact False.elim h
  | succ n ih =>
  intro σ l1 h
  unfold wX7_undoBackTo_0 at h
  refine x_aload_n dX7_undoBackTo_0 rfl 0 rfl ?_
  refine x_getIv hG fg_X7_37 dX7_undoBackTo_1 rfl ?_
  refine x_iload_n dX7_undoBackTo_4 rfl 1 rfl ?_
  refine x_icmp_le dX7_undoBackTo_5 51 (by decide) (fun c => ?_) (fun c => ?_)
  · replace h := h.1 c
    refine x_aload_n dX7_undoBackTo_8 rfl 0 rfl ?_
    refine x_getIv hG fg_X7_37 dX7_undoBackTo_9 rfl ?_
    refine x_if_le dX7_undoBackTo_12 51 (by decide) (fun c => ?_) (fun c => ?_)
    · replace h := h.1 c
      refine x_aload_n dX7_undoBackTo_15 rfl 0 rfl ?_
      refine x_dup dX7_undoBackTo_16 rfl ?_
      refine x_getIv hG fg_X7_37 dX7_undoBackTo_17 rfl ?_
      refine x_iconst (v := (1 : Int32)) dX7_undoBackTo_20 rfl ?_
      refine x_isub dX7_undoBackTo_21 ?_
      refine x_putI hG fp_X7_37 dX7_undoBackTo_22 ?_
      refine x_aload_n dX7_undoBackTo_25 rfl 0 rfl ?_
      refine x_getR (q := 7) hG fg_X7_11 dX7_undoBackTo_26 ?_
      refine x_aload_n dX7_undoBackTo_29 rfl 0 rfl ?_
      refine x_getR (q := 8) hG fg_X7_15 dX7_undoBackTo_30 ?_
      refine x_aload_n dX7_undoBackTo_33 rfl 0 rfl ?_
      refine x_getIv hG fg_X7_37 dX7_undoBackTo_34 rd_hit ?_
      refine x_ialdv hG rfl dX7_undoBackTo_37 h.1 (rd_no (by decide) rfl) ?_
      replace h := h.2
      refine x_aload_n dX7_undoBackTo_38 rfl 0 rfl ?_
      refine x_getR (q := 9) hG fg_X7_19 dX7_undoBackTo_39 ?_
      refine x_aload_n dX7_undoBackTo_42 rfl 0 rfl ?_
      refine x_getIv hG fg_X7_37 dX7_undoBackTo_43 rd_hit ?_
      refine x_laldv hG rfl dX7_undoBackTo_46 h.1 (rl_I rfl) ?_
      replace h := h.2
      refine x_last hG rfl dX7_undoBackTo_47 h.1 ?_
      replace h := h.2
      refine x_goto dX7_undoBackTo_48 0 (by decide) ?_
      exact x_sub [0, 1] rfl (ih h)
    · replace h := h.2 c
      exact x_vret rfl dX7_undoBackTo_51 ⟨rfl, h⟩
  · replace h := h.2 c
    exact x_vret rfl dX7_undoBackTo_51 ⟨rfl, h⟩
def wX7_undoBackTo (σ : Sg) (l1 : Int32) (Q : Sg → Prop) : Prop := ∃ n, wX7_undoBackTo_0 n σ l1 Q
theorem xX7_undoBackTo {G : Gx} (hG : gLy G = LyC) {σ : Sg} {l1 : Int32} {Q : Sg → Prop} (h : wX7_undoBackTo σ l1 Q) : X G mX7_undoBackTo 1 0 [(0, .ref (gad G 6)), (1, .int l1)] [] σ (qv Q) := by
  obtain ⟨n, h⟩ := h
  exact xX7_undoBackTo_0 hG n h
theorem ct_X7_undoBackTo {G : Gx} (hG : gLy G = LyC) {σ : Sg} {l1 : Int32} {Q : Sg → Prop} (h : wX7_undoBackTo σ l1 Q) : CT G mX7_undoBackTo 1 [.ref (gad G 6), .int l1] σ (qv Q) := ct_of rfl (Nat.le_of_ble_eq_true rfl) rfl (xX7_undoBackTo hG h)
/-! X7_read read -/
def wX7_read (σ : Sg) (l1 : Int32) (Q : Int64 → Sg → Prop) : Prop :=
  (l1 < 0 → (
    Q (4294967296 : Int64) σ
  )) ∧ (¬ l1 < 0 → (
    (l1 < (sI σ 6 3) → (
      vp_in l1 1708 ∧
      Q (sL σ 7 (l1).toNatClampNeg) σ
    )) ∧ (¬ l1 < (sI σ 6 3) → (
      Q (4294967296 : Int64) σ
    ))
  ))
set_option maxRecDepth 100000 in
set_option maxHeartbeats 4000000 in
theorem xX7_read {G : Gx} (hG : gLy G = LyC) {σ : Sg} {l1 : Int32} {Q : Int64 → Sg → Prop} (h : wX7_read σ l1 Q) : X G mX7_read 1 0 [(0, .ref (gad G 6)), (1, .int l1)] [] σ (ql Q) := by
  unfold wX7_read at h
  refine x_iload_n dX7_read_0 rfl 1 rfl ?_
  refine x_if_lt dX7_read_1 21 (by decide) (fun c => ?_) (fun c => ?_)
  · replace h := h.1 c
    refine x_ldc2 dX7_read_21 cl_X7_31 ?_
    exact x_lret rfl dX7_read_24 ⟨_, rfl, h⟩
  · replace h := h.2 c
    refine x_iload_n dX7_read_4 rfl 1 rfl ?_
    refine x_aload_n dX7_read_5 rfl 0 rfl ?_
    refine x_getIv hG fg_X7_33 dX7_read_6 rfl ?_
    refine x_icmp_ge dX7_read_9 21 (by decide) (fun c => ?_) (fun c => ?_)
    · replace h := h.1 c
      refine x_aload_n dX7_read_12 rfl 0 rfl ?_
      refine x_getR (q := 7) hG fg_X7_11 dX7_read_13 ?_
      refine x_iload_n dX7_read_16 rfl 1 rfl ?_
      refine x_laldv hG rfl dX7_read_17 h.1 rfl ?_
      replace h := h.2
      refine x_goto dX7_read_18 24 (by decide) ?_
      exact x_lret rfl dX7_read_24 ⟨_, rfl, h⟩
    · replace h := h.2 c
      refine x_ldc2 dX7_read_21 cl_X7_31 ?_
      exact x_lret rfl dX7_read_24 ⟨_, rfl, h⟩
theorem ct_X7_read {G : Gx} (hG : gLy G = LyC) {σ : Sg} {l1 : Int32} {Q : Int64 → Sg → Prop} (h : wX7_read σ l1 Q) : CT G mX7_read 1 [.ref (gad G 6), .int l1] σ (ql Q) := ct_of rfl (Nat.le_of_ble_eq_true rfl) rfl (xX7_read hG h)
/-! X7_lengthOf lengthOf -/
def wX7_lengthOf (σ : Sg) (l1 : Int64) (Q : Int32 → Sg → Prop) : Prop :=
  wX9_isRow σ l1 (fun r2 σ1 =>
  (r2 = 0 → (
    Q (0 : Int32) σ1
  )) ∧ (¬ r2 = 0 → (
    wX9_number σ1 l1 (fun r4 σ3 =>
    wX7_read σ3 r4 (fun r6 σ5 =>
    wX9_number σ5 r6 (fun r8 σ7 =>
    Q r8 σ7
    )
    )
    )
  ))
  )
set_option maxRecDepth 100000 in
set_option maxHeartbeats 4000000 in
theorem xX7_lengthOf {G : Gx} (hG : gLy G = LyC) {σ : Sg} {l1 : Int64} {Q : Int32 → Sg → Prop} (h : wX7_lengthOf σ l1 Q) : X G mX7_lengthOf 3 0 [(0, .ref (gad G 6)), (1, .long l1)] [] σ (qi Q) := by
  unfold wX7_lengthOf at h
  refine x_lload_n dX7_lengthOf_0 rfl 1 rfl ?_
  refine x_callSi [_] ms_X9_isRow lk_X7_63 rfl ⟨by decide, by decide⟩ rfl (Nat.le_of_ble_eq_true rfl) dX7_lengthOf_1 (ct_X9_isRow hG h) (fun r2 σ1 h => ?_)
  refine x_if_eq dX7_lengthOf_4 21 (by decide) (fun c => ?_) (fun c => ?_)
  · replace h := h.1 c
    refine x_iconst (v := (0 : Int32)) dX7_lengthOf_21 rfl ?_
    exact x_iret rfl dX7_lengthOf_22 ⟨_, rfl, h⟩
  · replace h := h.2 c
    refine x_aload_n dX7_lengthOf_7 rfl 0 rfl ?_
    refine x_lload_n dX7_lengthOf_8 rfl 1 rfl ?_
    refine x_callSi [_] ms_X9_number lk_X7_25 rfl ⟨by decide, by decide⟩ rfl (Nat.le_of_ble_eq_true rfl) dX7_lengthOf_9 (ct_X9_number hG h) (fun r4 σ3 h => ?_)
    refine x_callVl [_] hG mv_X7_read lk_X7_52 rfl rfl rfl ⟨by decide, by decide⟩ rfl (Nat.le_of_ble_eq_true rfl) dX7_lengthOf_12 (ct_X7_read hG h) (fun r6 σ5 h => ?_)
    refine x_callSi [_] ms_X9_number lk_X7_25 rfl ⟨by decide, by decide⟩ rfl (Nat.le_of_ble_eq_true rfl) dX7_lengthOf_15 (ct_X9_number hG h) (fun r8 σ7 h => ?_)
    refine x_goto dX7_lengthOf_18 22 (by decide) ?_
    exact x_iret rfl dX7_lengthOf_22 ⟨_, rfl, h⟩
theorem ct_X7_lengthOf {G : Gx} (hG : gLy G = LyC) {σ : Sg} {l1 : Int64} {Q : Int32 → Sg → Prop} (h : wX7_lengthOf σ l1 Q) : CT G mX7_lengthOf 3 [.ref (gad G 6), .long l1] σ (qi Q) := ct_of rfl (Nat.le_of_ble_eq_true rfl) rfl (xX7_lengthOf hG h)
/-! X7_cellOf cellOf -/
def wX7_cellOf (σ : Sg) (l0 : Int64) (l2 : Int32) (Q : Int32 → Sg → Prop) : Prop :=
  wX9_number σ l0 (fun r2 σ1 =>
  Q ((r2 + (1 : Int32)) + l2) σ1
  )
set_option maxRecDepth 100000 in
set_option maxHeartbeats 4000000 in
theorem xX7_cellOf {G : Gx} (hG : gLy G = LyC) {σ : Sg} {l0 : Int64} {l2 : Int32} {Q : Int32 → Sg → Prop} (h : wX7_cellOf σ l0 l2 Q) : X G mX7_cellOf 2 0 [(0, .long l0), (2, .int l2)] [] σ (qi Q) := by
  unfold wX7_cellOf at h
  refine x_lload_n dX7_cellOf_0 rfl 0 rfl ?_
  refine x_callSi [_] ms_X9_number lk_X7_25 rfl ⟨by decide, by decide⟩ rfl (Nat.le_of_ble_eq_true rfl) dX7_cellOf_1 (ct_X9_number hG h) (fun r2 σ1 h => ?_)
  refine x_iconst (v := (1 : Int32)) dX7_cellOf_4 rfl ?_
  refine x_iadd dX7_cellOf_5 ?_
  refine x_iload_n dX7_cellOf_6 rfl 1 rfl ?_
  refine x_iadd dX7_cellOf_7 ?_
  exact x_iret rfl dX7_cellOf_8 ⟨_, rfl, h⟩
theorem ct_X7_cellOf {G : Gx} (hG : gLy G = LyC) {σ : Sg} {l0 : Int64} {l2 : Int32} {Q : Int32 → Sg → Prop} (h : wX7_cellOf σ l0 l2 Q) : CT G mX7_cellOf 2 [.long l0, .int l2] σ (qi Q) := ct_of rfl (Nat.le_of_ble_eq_true rfl) rfl (xX7_cellOf hG h)
/-! X7_write write -/
def wX7_write (σ : Sg) (l1 : Int32) (l2 : Int64) (Q : Sg → Prop) : Prop :=
  (l1 < 0 → (
    Q σ
  )) ∧ (¬ l1 < 0 → (
    (l1 < (sI σ 6 3) → (
      ((sI σ 6 4) < (1700 : Int32) → (
        vp_in (sI σ 6 4) 1700 ∧
        let σ1 := wI σ 8 ((sI σ 6 4)).toNatClampNeg l1
        vp_in l1 1708 ∧
        vp_in (sI σ 6 4) 1700 ∧
        let σ2 := wL σ1 9 ((sI σ 6 4)).toNatClampNeg (sL σ 7 (l1).toNatClampNeg)
        let σ3 := wI σ2 6 4 ((sI σ 6 4) + (1 : Int32))
        vp_in l1 1708 ∧
        let σ4 := wL σ3 7 (l1).toNatClampNeg l2
        Q σ4
      )) ∧ (¬ (sI σ 6 4) < (1700 : Int32) → (
        Q σ
      ))
    )) ∧ (¬ l1 < (sI σ 6 3) → (
      Q σ
    ))
  ))
set_option maxRecDepth 100000 in
set_option maxHeartbeats 4000000 in
theorem xX7_write {G : Gx} (hG : gLy G = LyC) {σ : Sg} {l1 : Int32} {l2 : Int64} {Q : Sg → Prop} (h : wX7_write σ l1 l2 Q) : X G mX7_write 1 0 [(0, .ref (gad G 6)), (1, .int l1), (2, .long l2)] [] σ (qv Q) := by
  unfold wX7_write at h
  refine x_iload_n dX7_write_0 rfl 1 rfl ?_
  refine x_if_lt dX7_write_1 24 (by decide) (fun c => ?_) (fun c => ?_)
  · replace h := h.1 c
    exact x_vret rfl dX7_write_24 ⟨rfl, h⟩
  · replace h := h.2 c
    refine x_iload_n dX7_write_4 rfl 1 rfl ?_
    refine x_aload_n dX7_write_5 rfl 0 rfl ?_
    refine x_getIv hG fg_X7_33 dX7_write_6 rfl ?_
    refine x_icmp_ge dX7_write_9 24 (by decide) (fun c => ?_) (fun c => ?_)
    · replace h := h.1 c
      refine x_aload_n dX7_write_12 rfl 0 rfl ?_
      refine x_getIv hG fg_X7_37 dX7_write_13 rfl ?_
      refine x_aload_n dX7_write_16 rfl 0 rfl ?_
      refine x_getR (q := 8) hG fg_X7_15 dX7_write_17 ?_
      refine x_alenI hG rfl (v := (1700 : Int32)) rfl dX7_write_20 ?_
      refine x_icmp_lt dX7_write_21 25 (by decide) (fun c => ?_) (fun c => ?_)
      · replace h := h.1 c
        refine x_aload_n dX7_write_25 rfl 0 rfl ?_
        refine x_getR (q := 8) hG fg_X7_15 dX7_write_26 ?_
        refine x_aload_n dX7_write_29 rfl 0 rfl ?_
        refine x_getIv hG fg_X7_37 dX7_write_30 rfl ?_
        refine x_iload_n dX7_write_33 rfl 1 rfl ?_
        refine x_iast hG rfl dX7_write_34 h.1 ?_
        replace h := h.2
        refine x_aload_n dX7_write_35 rfl 0 rfl ?_
        refine x_getR (q := 9) hG fg_X7_19 dX7_write_36 ?_
        refine x_aload_n dX7_write_39 rfl 0 rfl ?_
        refine x_getIv hG fg_X7_37 dX7_write_40 (rd_no (by decide) rfl) ?_
        refine x_aload_n dX7_write_43 rfl 0 rfl ?_
        refine x_getR (q := 7) hG fg_X7_11 dX7_write_44 ?_
        refine x_iload_n dX7_write_47 rfl 1 rfl ?_
        refine x_laldv hG rfl dX7_write_48 h.1 (rl_I rfl) ?_
        replace h := h.2
        refine x_last hG rfl dX7_write_49 h.1 ?_
        replace h := h.2
        refine x_aload_n dX7_write_50 rfl 0 rfl ?_
        refine x_dup dX7_write_51 rfl ?_
        refine x_getIv hG fg_X7_37 dX7_write_52 (rd_L (rd_no (by decide) rfl)) ?_
        refine x_iconst (v := (1 : Int32)) dX7_write_55 rfl ?_
        refine x_iadd dX7_write_56 ?_
        refine x_putI hG fp_X7_37 dX7_write_57 ?_
        refine x_aload_n dX7_write_60 rfl 0 rfl ?_
        refine x_getR (q := 7) hG fg_X7_11 dX7_write_61 ?_
        refine x_iload_n dX7_write_64 rfl 1 rfl ?_
        refine x_lload_n dX7_write_65 rfl 2 rfl ?_
        refine x_last hG rfl dX7_write_66 h.1 ?_
        replace h := h.2
        exact x_vret rfl dX7_write_67 ⟨rfl, h⟩
      · replace h := h.2 c
        exact x_vret rfl dX7_write_24 ⟨rfl, h⟩
    · replace h := h.2 c
      exact x_vret rfl dX7_write_24 ⟨rfl, h⟩
theorem ct_X7_write {G : Gx} (hG : gLy G = LyC) {σ : Sg} {l1 : Int32} {l2 : Int64} {Q : Sg → Prop} (h : wX7_write σ l1 l2 Q) : CT G mX7_write 1 [.ref (gad G 6), .int l1, .long l2] σ (qv Q) := ct_of rfl (Nat.le_of_ble_eq_true rfl) rfl (xX7_write hG h)
/-! X7_copied copied -/
def wX7_copied_3 : Nat → Sg → Int64 → Int64 → Int32 → Int32 → (Int32 → Sg → Prop) → Prop
  | 0 => fun _ _ _ _ _ _ => False
  | n + 1 => fun σ l1 l3 l5 l6 Q =>
  (l6 < l5 → (
    wX7_cellOf σ l1 l6 (fun r2 σ1 =>
    wX7_read σ1 r2 (fun r4 σ3 =>
    wX9_isStrange σ3 l3 r4 (fun r6 σ5 =>
    (r6 = 0 → (
      wX7_cellOf σ5 l3 l6 (fun r8 σ7 =>
      wX7_write σ7 r8 r4 (fun σ9 =>
      wX7_copied_3 n σ9 l1 l3 l5 (l6 + (1 : Int32)) Q
      )
      )
    )) ∧ (¬ r6 = 0 → (
      Q (0 : Int32) σ5
    ))
    )
    )
    )
  )) ∧ (¬ l6 < l5 → (
    Q (1 : Int32) σ
  ))
set_option maxRecDepth 100000 in
set_option maxHeartbeats 4000000 in
theorem xX7_copied_3 {G : Gx} (hG : gLy G = LyC) {Q : Int32 → Sg → Prop} (n : Nat) : ∀ {σ : Sg} {l1 : Int64} {l3 : Int64} {l5 : Int32} {l6 : Int32}, wX7_copied_3 n σ l1 l3 l5 l6 Q → X G mX7_copied 3 3 [(0, .ref (gad G 6)), (1, .long l1), (3, .long l3), (5, .int l5), (6, .int l6)] [] σ (qi Q) := by
  induction n with
  | zero => intro σ l1 l3 l5 l6 h; exact False.elim h
  | succ n ih =>
  intro σ l1 l3 l5 l6 h
  unfold wX7_copied_3 at h
  refine x_iload dX7_copied_3 4 rfl ?_
  refine x_iload dX7_copied_5 3 rfl ?_
  refine x_icmp_ge dX7_copied_7 51 (by decide) (fun c => ?_) (fun c => ?_)
  · replace h := h.1 c
    refine x_aload_n dX7_copied_10 rfl 0 rfl ?_
    refine x_lload_n dX7_copied_11 rfl 1 rfl ?_
    refine x_iload dX7_copied_12 4 rfl ?_
    refine x_callSi [_, _] ms_X7_cellOf lk_X7_48 rfl ⟨by decide, by decide⟩ rfl (Nat.le_of_ble_eq_true rfl) dX7_copied_14 (ct_X7_cellOf hG h) (fun r2 σ1 h => ?_)
    refine x_callVl [_] hG mv_X7_read lk_X7_52 rfl rfl rfl ⟨by decide, by decide⟩ rfl (Nat.le_of_ble_eq_true rfl) dX7_copied_17 (ct_X7_read hG h) (fun r4 σ3 h => ?_)
    refine x_lstore dX7_copied_20 (Nat.le_of_ble_eq_true rfl) (lv' := [(7, _), (0, _), (1, _), (3, _), (5, _), (6, _)]) rfl ?_
    refine x_lload_n dX7_copied_22 rfl 3 rfl ?_
    refine x_lload dX7_copied_23 0 rfl ?_
    refine x_callSi [_, _] ms_X9_isStrange lk_X7_55 rfl ⟨by decide, by decide⟩ rfl (Nat.le_of_ble_eq_true rfl) dX7_copied_25 (ct_X9_isStrange hG h) (fun r6 σ5 h => ?_)
    refine x_if_eq dX7_copied_28 33 (by decide) (fun c => ?_) (fun c => ?_)
    · replace h := h.1 c
      refine x_aload_n dX7_copied_33 rfl 1 rfl ?_
      refine x_lload_n dX7_copied_34 rfl 3 rfl ?_
      refine x_iload dX7_copied_35 5 rfl ?_
      refine x_callSi [_, _] ms_X7_cellOf lk_X7_48 rfl ⟨by decide, by decide⟩ rfl (Nat.le_of_ble_eq_true rfl) dX7_copied_37 (ct_X7_cellOf hG h) (fun r8 σ7 h => ?_)
      refine x_lload dX7_copied_40 0 rfl ?_
      refine x_callVv [_, _] hG mv_X7_write lk_X7_59 rfl rfl rfl ⟨by decide, by decide⟩ rfl (Nat.le_of_ble_eq_true rfl) dX7_copied_42 (ct_X7_write hG h) (fun σ9 h => ?_)
      refine x_iinc dX7_copied_45 5 rfl (v := _ + (1 : Int32)) rfl (Nat.le_of_ble_eq_true rfl) (lv' := [(6, _), (7, _), (0, _), (1, _), (3, _), (5, _)]) rfl ?_
      refine x_goto dX7_copied_48 3 (by decide) ?_
      exact x_sub [2, 3, 4, 5, 0] rfl (ih h)
    · replace h := h.2 c
      refine x_iconst (v := (0 : Int32)) dX7_copied_31 rfl ?_
      exact x_zret rfl bz_0 dX7_copied_32 ⟨_, rfl, h⟩
  · replace h := h.2 c
    refine x_iconst (v := (1 : Int32)) dX7_copied_51 rfl ?_
    exact x_zret rfl bz_1 dX7_copied_52 ⟨_, rfl, h⟩
def wX7_copied (σ : Sg) (l1 : Int64) (l3 : Int64) (l5 : Int32) (Q : Int32 → Sg → Prop) : Prop :=
  ∃ n, wX7_copied_3 n σ l1 l3 l5 (0 : Int32) Q
set_option maxRecDepth 100000 in
set_option maxHeartbeats 4000000 in
theorem xX7_copied {G : Gx} (hG : gLy G = LyC) {σ : Sg} {l1 : Int64} {l3 : Int64} {l5 : Int32} {Q : Int32 → Sg → Prop} (h : wX7_copied σ l1 l3 l5 Q) : X G mX7_copied 3 0 [(0, .ref (gad G 6)), (1, .long l1), (3, .long l3), (5, .int l5)] [] σ (qi Q) := by
  unfold wX7_copied at h
  refine x_iconst (v := (0 : Int32)) dX7_copied_0 rfl ?_
  refine x_istore dX7_copied_1 (Nat.le_of_ble_eq_true rfl) (lv' := [(6, _), (0, _), (1, _), (3, _), (5, _)]) rfl ?_
  obtain ⟨n, h⟩ := h
  exact x_sub [1, 2, 3, 4, 0] rfl (xX7_copied_3 hG n h)
theorem ct_X7_copied {G : Gx} (hG : gLy G = LyC) {σ : Sg} {l1 : Int64} {l3 : Int64} {l5 : Int32} {Q : Int32 → Sg → Prop} (h : wX7_copied σ l1 l3 l5 Q) : CT G mX7_copied 3 [.ref (gad G 6), .long l1, .long l3, .int l5] σ (qi Q) := ct_of rfl (Nat.le_of_ble_eq_true rfl) rfl (xX7_copied hG h)
/-! X7_newRow newRow -/
def wX7_newRow_79 : Nat → Sg → Int32 → Int32 → Int64 → Int32 → (Int64 → Sg → Prop) → Prop
  | 0 => fun _ _ _ _ _ _ => False
  | n + 1 => fun σ l1 l3 l4 l6 Q =>
  (l6 < (sI σ 6 3) → (
    vp_in l6 1708 ∧
    let σ1 := wL σ 7 (l6).toNatClampNeg l4
    wX7_newRow_79 n σ1 l1 l3 l4 (l6 + (1 : Int32)) Q
  )) ∧ (¬ l6 < (sI σ 6 3) → (
    wX9_of σ l1 l3 (fun r3 σ2 =>
    Q r3 σ2
    )
  ))
set_option maxRecDepth 100000 in
set_option maxHeartbeats 4000000 in
theorem xX7_newRow_79 {G : Gx} (hG : gLy G = LyC) {Q : Int64 → Sg → Prop} (n : Nat) : ∀ {σ : Sg} {l1 : Int32} {l3 : Int32} {l4 : Int64} {l6 : Int32}, wX7_newRow_79 n σ l1 l3 l4 l6 Q → X G mX7_newRow 2 79 [(0, .ref (gad G 6)), (1, .int l1), (3, .int l3), (4, .long l4), (6, .int l6)] [] σ (ql Q) := by
  induction n with
  | zero => intro σ l1 l3 l4 l6 h; exact False.elim h
  | succ n ih =>
  intro σ l1 l3 l4 l6 h
  unfold wX7_newRow_79 at h
  refine x_iload dX7_newRow_79 4 rfl ?_
  refine x_aload_n dX7_newRow_81 rfl 0 rfl ?_
  refine x_getIv hG fg_X7_33 dX7_newRow_82 rfl ?_
  refine x_icmp_ge dX7_newRow_85 103 (by decide) (fun c => ?_) (fun c => ?_)
  · replace h := h.1 c
    refine x_aload_n dX7_newRow_88 rfl 0 rfl ?_
    refine x_getR (q := 7) hG fg_X7_11 dX7_newRow_89 ?_
    refine x_iload dX7_newRow_92 4 rfl ?_
    refine x_lload dX7_newRow_94 3 rfl ?_
    refine x_last hG rfl dX7_newRow_96 h.1 ?_
    replace h := h.2
    refine x_iinc dX7_newRow_97 4 rfl (v := _ + (1 : Int32)) rfl (Nat.le_of_ble_eq_true rfl) (lv' := [(6, _), (0, _), (1, _), (3, _), (4, _)]) rfl ?_
    refine x_goto dX7_newRow_100 79 (by decide) ?_
    exact x_sub [1, 2, 3, 4, 0] rfl (ih h)
  · replace h := h.2 c
    refine x_iload_n dX7_newRow_103 rfl 1 rfl ?_
    refine x_iload_n dX7_newRow_104 rfl 2 rfl ?_
    refine x_callSl [_, _] ms_X9_of lk_X7_44 rfl ⟨by decide, by decide⟩ rfl (Nat.le_of_ble_eq_true rfl) dX7_newRow_105 (ct_X9_of hG h) (fun r3 σ2 h => ?_)
    exact x_lret rfl dX7_newRow_108 ⟨_, rfl, h⟩
def wX7_newRow_72 (σ : Sg) (l1 : Int32) (l3 : Int32) (s0 : Int64) (Q : Int64 → Sg → Prop) : Prop :=
  ∃ n, wX7_newRow_79 n σ l1 l3 s0 (l3 + (1 : Int32)) Q
set_option maxRecDepth 100000 in
set_option maxHeartbeats 4000000 in
theorem xX7_newRow_72 {G : Gx} (hG : gLy G = LyC) {σ : Sg} {l1 : Int32} {l3 : Int32} {s0 : Int64} {Q : Int64 → Sg → Prop} (h : wX7_newRow_72 σ l1 l3 s0 Q) : X G mX7_newRow 2 72 [(0, .ref (gad G 6)), (1, .int l1), (3, .int l3)] [.long s0] σ (ql Q) := by
  unfold wX7_newRow_72 at h
  refine x_lstore dX7_newRow_72 (Nat.le_of_ble_eq_true rfl) (lv' := [(4, _), (0, _), (1, _), (3, _)]) rfl ?_
  refine x_iload_n dX7_newRow_74 rfl 3 rfl ?_
  refine x_iconst (v := (1 : Int32)) dX7_newRow_75 rfl ?_
  refine x_iadd dX7_newRow_76 ?_
  refine x_istore dX7_newRow_77 (Nat.le_of_ble_eq_true rfl) (lv' := [(6, _), (4, _), (0, _), (1, _), (3, _)]) rfl ?_
  obtain ⟨n, h⟩ := h
  exact x_sub [2, 3, 4, 1, 0] rfl (xX7_newRow_79 hG n h)
def wX7_newRow (σ : Sg) (l1 : Int32) (l2 : Int32) (Q : Int64 → Sg → Prop) : Prop :=
  (l2 < 0 → (
    Q (4294967296 : Int64) σ
  )) ∧ (¬ l2 < 0 → (
    ((16 : Int32) < l2 → (
      Q (4294967296 : Int64) σ
    )) ∧ (¬ (16 : Int32) < l2 → (
      ((1708 : Int32) < (((sI σ 6 3) + (1 : Int32)) + l2) → (
        Q (4294967296 : Int64) σ
      )) ∧ (¬ (1708 : Int32) < (((sI σ 6 3) + (1 : Int32)) + l2) → (
        let σ1 := wI σ 6 3 ((sI σ 6 3) + ((1 : Int32) + l2))
        wX9_whole σ1 l2 (fun r3 σ2 =>
        vp_in (sI σ 6 3) 1708 ∧
        let σ4 := wL σ2 7 ((sI σ 6 3)).toNatClampNeg r3
        (l1 = (2 : Int32) → (
          wX9_whole σ4 (0 : Int32) (fun r6 σ5 =>
          wX7_newRow_72 σ5 l1 (sI σ 6 3) r6 Q
          )
        )) ∧ (¬ l1 = (2 : Int32) → (
          wX7_newRow_72 σ4 l1 (sI σ 6 3) (4294967296 : Int64) Q
        ))
        )
      ))
    ))
  ))
set_option maxRecDepth 100000 in
set_option maxHeartbeats 4000000 in
theorem xX7_newRow {G : Gx} (hG : gLy G = LyC) {σ : Sg} {l1 : Int32} {l2 : Int32} {Q : Int64 → Sg → Prop} (h : wX7_newRow σ l1 l2 Q) : X G mX7_newRow 2 0 [(0, .ref (gad G 6)), (1, .int l1), (2, .int l2)] [] σ (ql Q) := by
  unfold wX7_newRow at h
  refine x_iload_n dX7_newRow_0 rfl 2 rfl ?_
  refine x_if_lt dX7_newRow_1 26 (by decide) (fun c => ?_) (fun c => ?_)
  · replace h := h.1 c
    refine x_ldc2 dX7_newRow_26 cl_X7_31 ?_
    exact x_lret rfl dX7_newRow_29 ⟨_, rfl, h⟩
  · replace h := h.2 c
    refine x_iload_n dX7_newRow_4 rfl 2 rfl ?_
    refine x_bipush (v := (16 : Int32)) dX7_newRow_5 rfl ?_
    refine x_icmp_gt dX7_newRow_7 26 (by decide) (fun c => ?_) (fun c => ?_)
    · replace h := h.1 c
      refine x_ldc2 dX7_newRow_26 cl_X7_31 ?_
      exact x_lret rfl dX7_newRow_29 ⟨_, rfl, h⟩
    · replace h := h.2 c
      refine x_aload_n dX7_newRow_10 rfl 0 rfl ?_
      refine x_getIv hG fg_X7_33 dX7_newRow_11 rfl ?_
      refine x_iconst (v := (1 : Int32)) dX7_newRow_14 rfl ?_
      refine x_iadd dX7_newRow_15 ?_
      refine x_iload_n dX7_newRow_16 rfl 2 rfl ?_
      refine x_iadd dX7_newRow_17 ?_
      refine x_aload_n dX7_newRow_18 rfl 0 rfl ?_
      refine x_getR (q := 7) hG fg_X7_11 dX7_newRow_19 ?_
      refine x_alenL hG rfl (v := (1708 : Int32)) rfl dX7_newRow_22 ?_
      refine x_icmp_le dX7_newRow_23 30 (by decide) (fun c => ?_) (fun c => ?_)
      · replace h := h.1 c
        refine x_ldc2 dX7_newRow_26 cl_X7_31 ?_
        exact x_lret rfl dX7_newRow_29 ⟨_, rfl, h⟩
      · replace h := h.2 c
        refine x_aload_n dX7_newRow_30 rfl 0 rfl ?_
        refine x_getIv hG fg_X7_33 dX7_newRow_31 rfl ?_
        refine x_istore_n dX7_newRow_34 rfl (Nat.le_of_ble_eq_true rfl) (lv' := [(3, _), (0, _), (1, _), (2, _)]) rfl ?_
        refine x_aload_n dX7_newRow_35 rfl 1 rfl ?_
        refine x_dup dX7_newRow_36 rfl ?_
        refine x_getIv hG fg_X7_33 dX7_newRow_37 rfl ?_
        refine x_iconst (v := (1 : Int32)) dX7_newRow_40 rfl ?_
        refine x_iload_n dX7_newRow_41 rfl 3 rfl ?_
        refine x_iadd dX7_newRow_42 ?_
        refine x_iadd dX7_newRow_43 ?_
        refine x_putI hG fp_X7_33 dX7_newRow_44 ?_
        refine x_aload_n dX7_newRow_47 rfl 1 rfl ?_
        refine x_getR (q := 7) hG fg_X7_11 dX7_newRow_48 ?_
        refine x_iload_n dX7_newRow_51 rfl 0 rfl ?_
        refine x_iload_n dX7_newRow_52 rfl 3 rfl ?_
        refine x_callSl [_] ms_X9_whole lk_X7_40 rfl ⟨by decide, by decide⟩ rfl (Nat.le_of_ble_eq_true rfl) dX7_newRow_53 (ct_X9_whole hG h) (fun r3 σ2 h => ?_)
        refine x_last hG rfl dX7_newRow_56 h.1 ?_
        replace h := h.2
        refine x_iload_n dX7_newRow_57 rfl 2 rfl ?_
        refine x_iconst (v := (2 : Int32)) dX7_newRow_58 rfl ?_
        refine x_icmp_ne dX7_newRow_59 69 (by decide) (fun c => ?_) (fun c => ?_)
        · replace h := h.1 c
          refine x_iconst (v := (0 : Int32)) dX7_newRow_62 rfl ?_
          refine x_callSl [_] ms_X9_whole lk_X7_40 rfl ⟨by decide, by decide⟩ rfl (Nat.le_of_ble_eq_true rfl) dX7_newRow_63 (ct_X9_whole hG h) (fun r6 σ5 h => ?_)
          refine x_goto dX7_newRow_66 72 (by decide) ?_
          exact x_sub [1, 2, 0] rfl (xX7_newRow_72 hG h)
        · replace h := h.2 c
          refine x_ldc2 dX7_newRow_69 cl_X7_31 ?_
          exact x_sub [1, 2, 0] rfl (xX7_newRow_72 hG h)
theorem ct_X7_newRow {G : Gx} (hG : gLy G = LyC) {σ : Sg} {l1 : Int32} {l2 : Int32} {Q : Int64 → Sg → Prop} (h : wX7_newRow σ l1 l2 Q) : CT G mX7_newRow 2 [.ref (gad G 6), .int l1, .int l2] σ (ql Q) := ct_of rfl (Nat.le_of_ble_eq_true rfl) rfl (xX7_newRow hG h)
/-! X7_newLink newLink -/
def wX7_newLink (σ : Sg) (l1 : Int32) (l2 : Int64) (Q : Int64 → Sg → Prop) : Prop :=
  ((sI σ 6 3) < (1708 : Int32) → (
    let σ1 := wI σ 6 3 ((sI σ 6 3) + (1 : Int32))
    vp_in (sI σ 6 3) 1708 ∧
    let σ2 := wL σ1 7 ((sI σ 6 3)).toNatClampNeg l2
    wX9_of σ2 l1 (sI σ 6 3) (fun r4 σ3 =>
    Q r4 σ3
    )
  )) ∧ (¬ (sI σ 6 3) < (1708 : Int32) → (
    Q (4294967296 : Int64) σ
  ))
set_option maxRecDepth 100000 in
set_option maxHeartbeats 4000000 in
theorem xX7_newLink {G : Gx} (hG : gLy G = LyC) {σ : Sg} {l1 : Int32} {l2 : Int64} {Q : Int64 → Sg → Prop} (h : wX7_newLink σ l1 l2 Q) : X G mX7_newLink 2 0 [(0, .ref (gad G 6)), (1, .int l1), (2, .long l2)] [] σ (ql Q) := by
  unfold wX7_newLink at h
  refine x_aload_n dX7_newLink_0 rfl 0 rfl ?_
  refine x_getIv hG fg_X7_33 dX7_newLink_1 rfl ?_
  refine x_aload_n dX7_newLink_4 rfl 0 rfl ?_
  refine x_getR (q := 7) hG fg_X7_11 dX7_newLink_5 ?_
  refine x_alenL hG rfl (v := (1708 : Int32)) rfl dX7_newLink_8 ?_
  refine x_icmp_lt dX7_newLink_9 16 (by decide) (fun c => ?_) (fun c => ?_)
  · replace h := h.1 c
    refine x_aload_n dX7_newLink_16 rfl 0 rfl ?_
    refine x_getIv hG fg_X7_33 dX7_newLink_17 rfl ?_
    refine x_istore dX7_newLink_20 (Nat.le_of_ble_eq_true rfl) (lv' := [(4, _), (0, _), (1, _), (2, _)]) rfl ?_
    refine x_aload_n dX7_newLink_22 rfl 1 rfl ?_
    refine x_dup dX7_newLink_23 rfl ?_
    refine x_getIv hG fg_X7_33 dX7_newLink_24 rfl ?_
    refine x_iconst (v := (1 : Int32)) dX7_newLink_27 rfl ?_
    refine x_iadd dX7_newLink_28 ?_
    refine x_putI hG fp_X7_33 dX7_newLink_29 ?_
    refine x_aload_n dX7_newLink_32 rfl 1 rfl ?_
    refine x_getR (q := 7) hG fg_X7_11 dX7_newLink_33 ?_
    refine x_iload dX7_newLink_36 0 rfl ?_
    refine x_lload_n dX7_newLink_38 rfl 3 rfl ?_
    refine x_last hG rfl dX7_newLink_39 h.1 ?_
    replace h := h.2
    refine x_iload_n dX7_newLink_40 rfl 2 rfl ?_
    refine x_iload dX7_newLink_41 0 rfl ?_
    refine x_callSl [_, _] ms_X9_of lk_X7_44 rfl ⟨by decide, by decide⟩ rfl (Nat.le_of_ble_eq_true rfl) dX7_newLink_43 (ct_X9_of hG h) (fun r4 σ3 h => ?_)
    exact x_lret rfl dX7_newLink_46 ⟨_, rfl, h⟩
  · replace h := h.2 c
    refine x_ldc2 dX7_newLink_12 cl_X7_31 ?_
    exact x_lret rfl dX7_newLink_15 ⟨_, rfl, h⟩
theorem ct_X7_newLink {G : Gx} (hG : gLy G = LyC) {σ : Sg} {l1 : Int32} {l2 : Int64} {Q : Int64 → Sg → Prop} (h : wX7_newLink σ l1 l2 Q) : CT G mX7_newLink 2 [.ref (gad G 6), .int l1, .long l2] σ (ql Q) := ct_of rfl (Nat.le_of_ble_eq_true rfl) rfl (xX7_newLink hG h)
/-! X7_isBox isBox -/
def wX7_isBox (σ : Sg) (l0 : Int32) (Q : Int32 → Sg → Prop) : Prop :=
  (l0 < 0 → (
    Q (0 : Int32) σ
  )) ∧ (¬ l0 < 0 → (
    (l0 < (8 : Int32) → (
      Q (1 : Int32) σ
    )) ∧ (¬ l0 < (8 : Int32) → (
      Q (0 : Int32) σ
    ))
  ))
set_option maxRecDepth 100000 in
set_option maxHeartbeats 4000000 in
theorem xX7_isBox {G : Gx} (hG : gLy G = LyC) {σ : Sg} {l0 : Int32} {Q : Int32 → Sg → Prop} (h : wX7_isBox σ l0 Q) : X G mX7_isBox 1 0 [(0, .int l0)] [] σ (qi Q) := by
  unfold wX7_isBox at h
  refine x_iload_n dX7_isBox_0 rfl 0 rfl ?_
  refine x_if_lt dX7_isBox_1 14 (by decide) (fun c => ?_) (fun c => ?_)
  · replace h := h.1 c
    refine x_iconst (v := (0 : Int32)) dX7_isBox_14 rfl ?_
    exact x_zret rfl bz_0 dX7_isBox_15 ⟨_, rfl, h⟩
  · replace h := h.2 c
    refine x_iload_n dX7_isBox_4 rfl 0 rfl ?_
    refine x_bipush (v := (8 : Int32)) dX7_isBox_5 rfl ?_
    refine x_icmp_ge dX7_isBox_7 14 (by decide) (fun c => ?_) (fun c => ?_)
    · replace h := h.1 c
      refine x_iconst (v := (1 : Int32)) dX7_isBox_10 rfl ?_
      refine x_goto dX7_isBox_11 15 (by decide) ?_
      exact x_zret rfl bz_1 dX7_isBox_15 ⟨_, rfl, h⟩
    · replace h := h.2 c
      refine x_iconst (v := (0 : Int32)) dX7_isBox_14 rfl ?_
      exact x_zret rfl bz_0 dX7_isBox_15 ⟨_, rfl, h⟩
theorem ct_X7_isBox {G : Gx} (hG : gLy G = LyC) {σ : Sg} {l0 : Int32} {Q : Int32 → Sg → Prop} (h : wX7_isBox σ l0 Q) : CT G mX7_isBox 1 [.int l0] σ (qi Q) := ct_of rfl (Nat.le_of_ble_eq_true rfl) rfl (xX7_isBox hG h)
/-! X7_measure measure -/
def wX7_measure (σ : Sg) (l1 : Int64) (Q : Int32 → Sg → Prop) : Prop :=
  wX9_sort σ l1 (fun r2 σ1 =>
  (r2 = 0 → (
    wX9_number σ1 l1 (fun r4 σ3 =>
    Q r4 σ3
    )
  )) ∧ (¬ r2 = 0 → (
    wX7_lengthOf σ1 l1 (fun r6 σ5 =>
    Q r6 σ5
    )
  ))
  )
set_option maxRecDepth 100000 in
set_option maxHeartbeats 4000000 in
theorem xX7_measure {G : Gx} (hG : gLy G = LyC) {σ : Sg} {l1 : Int64} {Q : Int32 → Sg → Prop} (h : wX7_measure σ l1 Q) : X G mX7_measure 4 0 [(0, .ref (gad G 6)), (1, .long l1)] [] σ (qi Q) := by
  unfold wX7_measure at h
  refine x_lload_n dX7_measure_0 rfl 1 rfl ?_
  refine x_callSi [_] ms_X9_sort lk_X7_67 rfl ⟨by decide, by decide⟩ rfl (Nat.le_of_ble_eq_true rfl) dX7_measure_1 (ct_X9_sort hG h) (fun r2 σ1 h => ?_)
  refine x_if_ne dX7_measure_4 14 (by decide) (fun c => ?_) (fun c => ?_)
  · replace h := h.1 c
    refine x_lload_n dX7_measure_7 rfl 1 rfl ?_
    refine x_callSi [_] ms_X9_number lk_X7_25 rfl ⟨by decide, by decide⟩ rfl (Nat.le_of_ble_eq_true rfl) dX7_measure_8 (ct_X9_number hG h) (fun r4 σ3 h => ?_)
    refine x_goto dX7_measure_11 19 (by decide) ?_
    exact x_iret rfl dX7_measure_19 ⟨_, rfl, h⟩
  · replace h := h.2 c
    refine x_aload_n dX7_measure_14 rfl 0 rfl ?_
    refine x_lload_n dX7_measure_15 rfl 1 rfl ?_
    refine x_callVi [_] hG mv_X7_lengthOf lk_X7_70 rfl rfl rfl ⟨by decide, by decide⟩ rfl (Nat.le_of_ble_eq_true rfl) dX7_measure_16 (ct_X7_lengthOf hG h) (fun r6 σ5 h => ?_)
    exact x_iret rfl dX7_measure_19 ⟨_, rfl, h⟩
theorem ct_X7_measure {G : Gx} (hG : gLy G = LyC) {σ : Sg} {l1 : Int64} {Q : Int32 → Sg → Prop} (h : wX7_measure σ l1 Q) : CT G mX7_measure 4 [.ref (gad G 6), .long l1] σ (qi Q) := ct_of rfl (Nat.le_of_ble_eq_true rfl) rfl (xX7_measure hG h)
