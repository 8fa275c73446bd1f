/-! X3_restart restart -/
def wX3_restart (σ : Sg) (Q : Sg → Prop) : Prop :=
  let σ1 := wI σ 12 1 (0 : Int32)
  Q σ1
set_option maxRecDepth 100000 in
set_option maxHeartbeats 4000000 in
theorem xX3_restart {G : Gx} (hG : gLy G = LyC) {σ : Sg} {Q : Sg → Prop} (h : wX3_restart σ Q) : X G mX3_restart 1 0 [(0, .ref (gad G 12))] [] σ (qv Q) := by
  unfold wX3_restart at h
  refine x_aload_n dX3_restart_0 rfl 0 rfl ?_
  refine x_iconst (v := (0 : Int32)) dX3_restart_1 rfl ?_
  refine x_putI hG fp_X3_15 dX3_restart_2 ?_
  exact x_vret rfl dX3_restart_5 ⟨rfl, h⟩
theorem ct_X3_restart {G : Gx} (hG : gLy G = LyC) {σ : Sg} {Q : Sg → Prop} (h : wX3_restart σ Q) : CT G mX3_restart 1 [.ref (gad G 12)] σ (qv Q) := ct_of rfl (Nat.le_of_ble_eq_true rfl) rfl (xX3_restart hG h)
/-! X3_open open -/
def wX3_open_31 : Nat → Sg → Int32 → Int32 → (Int32 → Sg → Prop) → Prop
  | 0 => fun _ _ _ _ => False
  | n + 1 => fun σ l1 l2 Q =>
  (l2 < ((8 : Int32) * (sI σ 12 1)) → (
    vp_in l2 808 ∧
    let σ1 := wL σ 13 (l2).toNatClampNeg (4294967296 : Int64)
    wX3_open_31 n σ1 l1 (l2 + (1 : Int32)) Q
  )) ∧ (¬ l2 < ((8 : Int32) * (sI σ 12 1)) → (
    Q l1 σ
  ))
set_option maxRecDepth 100000 in
set_option maxHeartbeats 4000000 in
theorem xX3_open_31 {G : Gx} (hG : gLy G = LyC) {Q : Int32 → Sg → Prop} (n : Nat) : ∀ {σ : Sg} {l1 : Int32} {l2 : Int32}, wX3_open_31 n σ l1 l2 Q → X G mX3_open 1 31 [(0, .ref (gad G 12)), (1, .int l1), (2, .int l2)] [] σ (qi Q) := by
  induction n with
  | zero => intro σ l1 l2 h; exact False.elim h
  | succ n ih =>
  intro σ l1 l2 h
  unfold wX3_open_31 at h
  refine x_iload_n dX3_open_31 rfl 2 rfl ?_
  refine x_bipush (v := (8 : Int32)) dX3_open_32 rfl ?_
  refine x_aload_n dX3_open_34 rfl 0 rfl ?_
  refine x_getIv hG fg_X3_15 dX3_open_35 rfl ?_
  refine x_imul dX3_open_38 ?_
  refine x_icmp_ge dX3_open_39 57 (by decide) (fun c => ?_) (fun c => ?_)
  · replace h := h.1 c
    refine x_aload_n dX3_open_42 rfl 0 rfl ?_
    refine x_getR (q := 13) hG fg_X3_11 dX3_open_43 ?_
    refine x_iload_n dX3_open_46 rfl 2 rfl ?_
    refine x_ldc2 dX3_open_47 cl_X3_21 ?_
    refine x_last hG rfl dX3_open_50 h.1 ?_
    replace h := h.2
    refine x_iinc dX3_open_51 2 rfl (v := _ + (1 : Int32)) rfl (Nat.le_of_ble_eq_true rfl) (lv' := [(2, _), (0, _), (1, _)]) rfl ?_
    refine x_goto dX3_open_54 31 (by decide) ?_
    exact x_sub [1, 2, 0] rfl (ih h)
  · replace h := h.2 c
    refine x_iload_n dX3_open_57 rfl 1 rfl ?_
    exact x_iret rfl dX3_open_58 ⟨_, rfl, h⟩
def wX3_open_18 (σ : Sg) (s0 : Int32) (Q : Int32 → Sg → Prop) : Prop :=
  let σ1 := wI σ 12 1 (s0 + (1 : Int32))
  ∃ n, wX3_open_31 n σ1 s0 ((8 : Int32) * s0) Q
set_option maxRecDepth 100000 in
set_option maxHeartbeats 4000000 in
theorem xX3_open_18 {G : Gx} (hG : gLy G = LyC) {σ : Sg} {s0 : Int32} {Q : Int32 → Sg → Prop} (h : wX3_open_18 σ s0 Q) : X G mX3_open 1 18 [(0, .ref (gad G 12))] [.int s0] σ (qi Q) := by
  unfold wX3_open_18 at h
  refine x_istore_n dX3_open_18 rfl (Nat.le_of_ble_eq_true rfl) (lv' := [(1, _), (0, _)]) rfl ?_
  refine x_aload_n dX3_open_19 rfl 1 rfl ?_
  refine x_iload_n dX3_open_20 rfl 0 rfl ?_
  refine x_iconst (v := (1 : Int32)) dX3_open_21 rfl ?_
  refine x_iadd dX3_open_22 ?_
  refine x_putI hG fp_X3_15 dX3_open_23 ?_
  refine x_bipush (v := (8 : Int32)) dX3_open_26 rfl ?_
  refine x_iload_n dX3_open_28 rfl 0 rfl ?_
  refine x_imul dX3_open_29 ?_
  refine x_istore_n dX3_open_30 rfl (Nat.le_of_ble_eq_true rfl) (lv' := [(2, _), (1, _), (0, _)]) rfl ?_
  obtain ⟨n, h⟩ := h
  exact x_sub [2, 1, 0] rfl (xX3_open_31 hG n h)
def wX3_open (σ : Sg) (Q : Int32 → Sg → Prop) : Prop :=
  ((sI σ 12 1) < (101 : Int32) → (
    wX3_open_18 σ (sI σ 12 1) Q
  )) ∧ (¬ (sI σ 12 1) < (101 : Int32) → (
    wX3_open_18 σ (100 : Int32) Q
  ))
set_option maxRecDepth 100000 in
set_option maxHeartbeats 4000000 in
theorem xX3_open {G : Gx} (hG : gLy G = LyC) {σ : Sg} {Q : Int32 → Sg → Prop} (h : wX3_open σ Q) : X G mX3_open 1 0 [(0, .ref (gad G 12))] [] σ (qi Q) := by
  unfold wX3_open at h
  refine x_aload_n dX3_open_0 rfl 0 rfl ?_
  refine x_getIv hG fg_X3_15 dX3_open_1 rfl ?_
  refine x_bipush (v := (101 : Int32)) dX3_open_4 rfl ?_
  refine x_icmp_ge dX3_open_6 16 (by decide) (fun c => ?_) (fun c => ?_)
  · replace h := h.1 c
    refine x_aload_n dX3_open_9 rfl 0 rfl ?_
    refine x_getIv hG fg_X3_15 dX3_open_10 rfl ?_
    refine x_goto dX3_open_13 18 (by decide) ?_
    exact x_sub [0] rfl (xX3_open_18 hG h)
  · replace h := h.2 c
    refine x_bipush (v := (100 : Int32)) dX3_open_16 rfl ?_
    exact x_sub [0] rfl (xX3_open_18 hG h)
theorem ct_X3_open {G : Gx} (hG : gLy G = LyC) {σ : Sg} {Q : Int32 → Sg → Prop} (h : wX3_open σ Q) : CT G mX3_open 1 [.ref (gad G 12)] σ (qi Q) := ct_of rfl (Nat.le_of_ble_eq_true rfl) rfl (xX3_open hG h)
/-! X3_has has -/
def wX3_has (σ : Sg) (l1 : Int32) (l2 : Int32) (Q : Int32 → Sg → Prop) : Prop :=
  (l1 < 0 → (
    Q (0 : Int32) σ
  )) ∧ (¬ l1 < 0 → (
    (l1 < (sI σ 12 1) → (
      (l2 < 0 → (
        Q (0 : Int32) σ
      )) ∧ (¬ l2 < 0 → (
        (l2 < (8 : Int32) → (
          Q (1 : Int32) σ
        )) ∧ (¬ l2 < (8 : Int32) → (
          Q (0 : Int32) σ
        ))
      ))
    )) ∧ (¬ l1 < (sI σ 12 1) → (
      Q (0 : Int32) σ
    ))
  ))
set_option maxRecDepth 100000 in
set_option maxHeartbeats 4000000 in
theorem xX3_has {G : Gx} (hG : gLy G = LyC) {σ : Sg} {l1 : Int32} {l2 : Int32} {Q : Int32 → Sg → Prop} (h : wX3_has σ l1 l2 Q) : X G mX3_has 1 0 [(0, .ref (gad G 12)), (1, .int l1), (2, .int l2)] [] σ (qi Q) := by
  unfold wX3_has at h
  refine x_iload_n dX3_has_0 rfl 1 rfl ?_
  refine x_if_lt dX3_has_1 26 (by decide) (fun c => ?_) (fun c => ?_)
  · replace h := h.1 c
    refine x_iconst (v := (0 : Int32)) dX3_has_26 rfl ?_
    exact x_zret rfl bz_0 dX3_has_27 ⟨_, rfl, h⟩
  · replace h := h.2 c
    refine x_iload_n dX3_has_4 rfl 1 rfl ?_
    refine x_aload_n dX3_has_5 rfl 0 rfl ?_
    refine x_getIv hG fg_X3_15 dX3_has_6 rfl ?_
    refine x_icmp_ge dX3_has_9 26 (by decide) (fun c => ?_) (fun c => ?_)
    · replace h := h.1 c
      refine x_iload_n dX3_has_12 rfl 2 rfl ?_
      refine x_if_lt dX3_has_13 26 (by decide) (fun c => ?_) (fun c => ?_)
      · replace h := h.1 c
        refine x_iconst (v := (0 : Int32)) dX3_has_26 rfl ?_
        exact x_zret rfl bz_0 dX3_has_27 ⟨_, rfl, h⟩
      · replace h := h.2 c
        refine x_iload_n dX3_has_16 rfl 2 rfl ?_
        refine x_bipush (v := (8 : Int32)) dX3_has_17 rfl ?_
        refine x_icmp_ge dX3_has_19 26 (by decide) (fun c => ?_) (fun c => ?_)
        · replace h := h.1 c
          refine x_iconst (v := (1 : Int32)) dX3_has_22 rfl ?_
          refine x_goto dX3_has_23 27 (by decide) ?_
          exact x_zret rfl bz_1 dX3_has_27 ⟨_, rfl, h⟩
        · replace h := h.2 c
          refine x_iconst (v := (0 : Int32)) dX3_has_26 rfl ?_
          exact x_zret rfl bz_0 dX3_has_27 ⟨_, rfl, h⟩
    · replace h := h.2 c
      refine x_iconst (v := (0 : Int32)) dX3_has_26 rfl ?_
      exact x_zret rfl bz_0 dX3_has_27 ⟨_, rfl, h⟩
theorem ct_X3_has {G : Gx} (hG : gLy G = LyC) {σ : Sg} {l1 : Int32} {l2 : Int32} {Q : Int32 → Sg → Prop} (h : wX3_has σ l1 l2 Q) : CT G mX3_has 1 [.ref (gad G 12), .int l1, .int l2] σ (qi Q) := ct_of rfl (Nat.le_of_ble_eq_true rfl) rfl (xX3_has hG h)
/-! X3_read read -/
def wX3_read (σ : Sg) (l1 : Int32) (l2 : Int32) (Q : Int64 → Sg → Prop) : Prop :=
  wX3_has σ l1 l2 (fun r2 σ1 =>
  (r2 = 0 → (
    Q (4294967296 : Int64) σ1
  )) ∧ (¬ r2 = 0 → (
    vp_in (((8 : Int32) * l1) + l2) 808 ∧
    Q (sL σ1 13 ((((8 : Int32) * l1) + l2)).toNatClampNeg) σ1
  ))
  )
set_option maxRecDepth 100000 in
set_option maxHeartbeats 4000000 in
theorem xX3_read {G : Gx} (hG : gLy G = LyC) {σ : Sg} {l1 : Int32} {l2 : Int32} {Q : Int64 → Sg → Prop} (h : wX3_read σ l1 l2 Q) : X G mX3_read 2 0 [(0, .ref (gad G 12)), (1, .int l1), (2, .int l2)] [] σ (ql Q) := by
  unfold wX3_read at h
  refine x_aload_n dX3_read_0 rfl 0 rfl ?_
  refine x_iload_n dX3_read_1 rfl 1 rfl ?_
  refine x_iload_n dX3_read_2 rfl 2 rfl ?_
  refine x_callVi [_, _] hG mv_X3_has lk_X3_23 rfl rfl rfl ⟨by decide, by decide⟩ rfl (Nat.le_of_ble_eq_true rfl) dX3_read_3 (ct_X3_has hG h) (fun r2 σ1 h => ?_)
  refine x_if_eq dX3_read_6 23 (by decide) (fun c => ?_) (fun c => ?_)
  · replace h := h.1 c
    refine x_ldc2 dX3_read_23 cl_X3_21 ?_
    exact x_lret rfl dX3_read_26 ⟨_, rfl, h⟩
  · replace h := h.2 c
    refine x_aload_n dX3_read_9 rfl 0 rfl ?_
    refine x_getR (q := 13) hG fg_X3_11 dX3_read_10 ?_
    refine x_bipush (v := (8 : Int32)) dX3_read_13 rfl ?_
    refine x_iload_n dX3_read_15 rfl 1 rfl ?_
    refine x_imul dX3_read_16 ?_
    refine x_iload_n dX3_read_17 rfl 2 rfl ?_
    refine x_iadd dX3_read_18 ?_
    refine x_laldv hG rfl dX3_read_19 h.1 rfl ?_
    replace h := h.2
    refine x_goto dX3_read_20 26 (by decide) ?_
    exact x_lret rfl dX3_read_26 ⟨_, rfl, h⟩
theorem ct_X3_read {G : Gx} (hG : gLy G = LyC) {σ : Sg} {l1 : Int32} {l2 : Int32} {Q : Int64 → Sg → Prop} (h : wX3_read σ l1 l2 Q) : CT G mX3_read 2 [.ref (gad G 12), .int l1, .int l2] σ (ql Q) := ct_of rfl (Nat.le_of_ble_eq_true rfl) rfl (xX3_read hG h)
/-! X3_write write -/
def wX3_write (σ : Sg) (l1 : Int32) (l2 : Int32) (l3 : Int64) (Q : Sg → Prop) : Prop :=
  wX3_has σ l1 l2 (fun r2 σ1 =>
  (r2 = 0 → (
    Q σ1
  )) ∧ (¬ r2 = 0 → (
    vp_in (((8 : Int32) * l1) + l2) 808 ∧
    let σ3 := wL σ1 13 ((((8 : Int32) * l1) + l2)).toNatClampNeg l3
    Q σ3
  ))
  )
set_option maxRecDepth 100000 in
set_option maxHeartbeats 4000000 in
theorem xX3_write {G : Gx} (hG : gLy G = LyC) {σ : Sg} {l1 : Int32} {l2 : Int32} {l3 : Int64} {Q : Sg → Prop} (h : wX3_write σ l1 l2 l3 Q) : X G mX3_write 2 0 [(0, .ref (gad G 12)), (1, .int l1), (2, .int l2), (3, .long l3)] [] σ (qv Q) := by
  unfold wX3_write at h
  refine x_aload_n dX3_write_0 rfl 0 rfl ?_
  refine x_iload_n dX3_write_1 rfl 1 rfl ?_
  refine x_iload_n dX3_write_2 rfl 2 rfl ?_
  refine x_callVi [_, _] hG mv_X3_has lk_X3_23 rfl rfl rfl ⟨by decide, by decide⟩ rfl (Nat.le_of_ble_eq_true rfl) dX3_write_3 (ct_X3_has hG h) (fun r2 σ1 h => ?_)
  refine x_if_eq dX3_write_6 21 (by decide) (fun c => ?_) (fun c => ?_)
  · replace h := h.1 c
    exact x_vret rfl dX3_write_21 ⟨rfl, h⟩
  · replace h := h.2 c
    refine x_aload_n dX3_write_9 rfl 0 rfl ?_
    refine x_getR (q := 13) hG fg_X3_11 dX3_write_10 ?_
    refine x_bipush (v := (8 : Int32)) dX3_write_13 rfl ?_
    refine x_iload_n dX3_write_15 rfl 1 rfl ?_
    refine x_imul dX3_write_16 ?_
    refine x_iload_n dX3_write_17 rfl 2 rfl ?_
    refine x_iadd dX3_write_18 ?_
    refine x_lload_n dX3_write_19 rfl 3 rfl ?_
    refine x_last hG rfl dX3_write_20 h.1 ?_
    replace h := h.2
    exact x_vret rfl dX3_write_21 ⟨rfl, h⟩
theorem ct_X3_write {G : Gx} (hG : gLy G = LyC) {σ : Sg} {l1 : Int32} {l2 : Int32} {l3 : Int64} {Q : Sg → Prop} (h : wX3_write σ l1 l2 l3 Q) : CT G mX3_write 2 [.ref (gad G 12), .int l1, .int l2, .long l3] σ (qv Q) := ct_of rfl (Nat.le_of_ble_eq_true rfl) rfl (xX3_write hG h)
