/-! X10_act act -/
def wX10_act (σ : Sg) (l1 : Int32) (l2 : Int32) (l3 : Int32) (l4 : Int32) (Q : Int32 → Sg → Prop) : Prop :=
  wX0_refusalOf σ l1 l2 l3 l4 (fun r2 σ1 =>
  (r2 = 0 → (
    wX0_add σ1 l1 l2 l3 l4 (fun r4 σ3 =>
    Q r4 σ3
    )
  )) ∧ (¬ r2 = 0 → (
    Q r2 σ1
  ))
  )
set_option maxRecDepth 100000 in
set_option maxHeartbeats 4000000 in
theorem xX10_act {G : Gx} (hG : gLy G = LyC) {σ : Sg} {l1 : Int32} {l2 : Int32} {l3 : Int32} {l4 : Int32} {Q : Int32 → Sg → Prop} (h : wX10_act σ l1 l2 l3 l4 Q) : X G mX10_act 4 0 [(0, .ref (gad G 0)), (1, .int l1), (2, .int l2), (3, .int l3), (4, .int l4)] [] σ (qi Q) := by
  unfold wX10_act at h
  refine x_aload_n dX10_act_0 rfl 0 rfl ?_
  refine x_getR (q := 1) hG fg_X10_10 dX10_act_1 ?_
  refine x_iload_n dX10_act_4 rfl 1 rfl ?_
  refine x_iload_n dX10_act_5 rfl 2 rfl ?_
  refine x_iload_n dX10_act_6 rfl 3 rfl ?_
  refine x_iload dX10_act_7 4 rfl ?_
  refine x_callVi [_, _, _, _] hG mv_X0_refusalOf lk_X10_29 rfl rfl rfl ⟨by decide, by decide⟩ rfl (Nat.le_of_ble_eq_true rfl) dX10_act_9 (ct_X0_refusalOf hG h) (fun r2 σ1 h => ?_)
  refine x_istore dX10_act_12 (Nat.le_of_ble_eq_true rfl) (lv' := [(5, _), (0, _), (1, _), (2, _), (3, _), (4, _)]) rfl ?_
  refine x_iload dX10_act_14 0 rfl ?_
  refine x_if_eq dX10_act_16 24 (by decide) (fun c => ?_) (fun c => ?_)
  · replace h := h.1 c
    refine x_aload_n dX10_act_24 rfl 1 rfl ?_
    refine x_getR (q := 1) hG fg_X10_10 dX10_act_25 ?_
    refine x_iload_n dX10_act_28 rfl 2 rfl ?_
    refine x_iload_n dX10_act_29 rfl 3 rfl ?_
    refine x_iload_n dX10_act_30 rfl 4 rfl ?_
    refine x_iload dX10_act_31 5 rfl ?_
    refine x_callVi [_, _, _, _] hG mv_X0_add lk_X10_33 rfl rfl rfl ⟨by decide, by decide⟩ rfl (Nat.le_of_ble_eq_true rfl) dX10_act_33 (ct_X0_add hG h) (fun r4 σ3 h => ?_)
    exact x_iret rfl dX10_act_36 ⟨_, rfl, h⟩
  · replace h := h.2 c
    refine x_iload dX10_act_19 0 rfl ?_
    refine x_goto dX10_act_21 36 (by decide) ?_
    exact x_iret rfl dX10_act_36 ⟨_, rfl, h⟩
theorem ct_X10_act {G : Gx} (hG : gLy G = LyC) {σ : Sg} {l1 : Int32} {l2 : Int32} {l3 : Int32} {l4 : Int32} {Q : Int32 → Sg → Prop} (h : wX10_act σ l1 l2 l3 l4 Q) : CT G mX10_act 4 [.ref (gad G 0), .int l1, .int l2, .int l3, .int l4] σ (qi Q) := ct_of rfl (Nat.le_of_ble_eq_true rfl) rfl (xX10_act hG h)
/-! X10_told told -/
def wX10_told_23 (σ : Sg) (Q : Int32 → Sg → Prop) : Prop :=
  Q (-102 : Int32) σ
set_option maxRecDepth 100000 in
set_option maxHeartbeats 4000000 in
theorem xX10_told_23 {G : Gx} (hG : gLy G = LyC) {σ : Sg} {Q : Int32 → Sg → Prop} (h : wX10_told_23 σ Q) : X G mX10_told 3 23 [] [] σ (qi Q) := by
  unfold wX10_told_23 at h
  refine x_bipush (v := (-102 : Int32)) dX10_told_23 rfl ?_
  refine x_goto dX10_told_25 37 (by decide) ?_
  exact x_iret rfl dX10_told_37 ⟨_, rfl, h⟩
def wX10_told (σ : Sg) (l1 : Int32) (l2 : Int32) (Q : Int32 → Sg → Prop) : Prop :=
  wX0_has σ l1 (fun r2 σ1 =>
  (r2 = 0 → (
    Q (-101 : Int32) σ1
  )) ∧ (¬ r2 = 0 → (
    (l2 < 0 → (
      wX10_told_23 σ1 Q
    )) ∧ (¬ l2 < 0 → (
      ((3 : Int32) < l2 → (
        wX10_told_23 σ1 Q
      )) ∧ (¬ (3 : Int32) < l2 → (
        wX0_given σ1 l1 l2 (fun r4 σ3 =>
        Q r4 σ3
        )
      ))
    ))
  ))
  )
set_option maxRecDepth 100000 in
set_option maxHeartbeats 4000000 in
theorem xX10_told {G : Gx} (hG : gLy G = LyC) {σ : Sg} {l1 : Int32} {l2 : Int32} {Q : Int32 → Sg → Prop} (h : wX10_told σ l1 l2 Q) : X G mX10_told 3 0 [(0, .ref (gad G 0)), (1, .int l1), (2, .int l2)] [] σ (qi Q) := by
  unfold wX10_told at h
  refine x_aload_n dX10_told_0 rfl 0 rfl ?_
  refine x_getR (q := 1) hG fg_X10_10 dX10_told_1 ?_
  refine x_iload_n dX10_told_4 rfl 1 rfl ?_
  refine x_callVi [_] hG mv_X0_has lk_X10_36 rfl rfl rfl ⟨by decide, by decide⟩ rfl (Nat.le_of_ble_eq_true rfl) dX10_told_5 (ct_X0_has hG h) (fun r2 σ1 h => ?_)
  refine x_if_ne dX10_told_8 14 (by decide) (fun c => ?_) (fun c => ?_)
  · replace h := h.1 c
    refine x_bipush (v := (-101 : Int32)) dX10_told_11 rfl ?_
    exact x_iret rfl dX10_told_13 ⟨_, rfl, h⟩
  · replace h := h.2 c
    refine x_iload_n dX10_told_14 rfl 2 rfl ?_
    refine x_if_lt dX10_told_15 23 (by decide) (fun c => ?_) (fun c => ?_)
    · replace h := h.1 c
      exact x_sub [] rfl (xX10_told_23 hG h)
    · replace h := h.2 c
      refine x_iload_n dX10_told_18 rfl 2 rfl ?_
      refine x_iconst (v := (3 : Int32)) dX10_told_19 rfl ?_
      refine x_icmp_le dX10_told_20 28 (by decide) (fun c => ?_) (fun c => ?_)
      · replace h := h.1 c
        exact x_sub [] rfl (xX10_told_23 hG h)
      · replace h := h.2 c
        refine x_aload_n dX10_told_28 rfl 0 rfl ?_
        refine x_getR (q := 1) hG fg_X10_10 dX10_told_29 ?_
        refine x_iload_n dX10_told_32 rfl 1 rfl ?_
        refine x_iload_n dX10_told_33 rfl 2 rfl ?_
        refine x_callVi [_, _] hG mv_X0_given lk_X10_40 rfl rfl rfl ⟨by decide, by decide⟩ rfl (Nat.le_of_ble_eq_true rfl) dX10_told_34 (ct_X0_given hG h) (fun r4 σ3 h => ?_)
        exact x_iret rfl dX10_told_37 ⟨_, rfl, h⟩
theorem ct_X10_told {G : Gx} (hG : gLy G = LyC) {σ : Sg} {l1 : Int32} {l2 : Int32} {Q : Int32 → Sg → Prop} (h : wX10_told σ l1 l2 Q) : CT G mX10_told 3 [.ref (gad G 0), .int l1, .int l2] σ (qi Q) := ct_of rfl (Nat.le_of_ble_eq_true rfl) rfl (xX10_told hG h)
/-! X10_run run -/
def wX10_run (σ : Sg) (l1 : Int32) (l2 : Int32) (Q : Int32 → Sg → Prop) : Prop :=
  wX0_has σ l1 (fun r2 σ1 =>
  (r2 = 0 → (
    Q (-101 : Int32) σ1
  )) ∧ (¬ r2 = 0 → (
    (l2 < (1 : Int32) → (
      Q (-102 : Int32) σ1
    )) ∧ (¬ l2 < (1 : Int32) → (
      ((200 : Int32) < l2 → (
        Q (-102 : Int32) σ1
      )) ∧ (¬ (200 : Int32) < l2 → (
        ((sI σ1 0 2) < (400 : Int32) → (
          let σ3 := wI σ1 0 2 ((sI σ1 0 2) + (1 : Int32))
          wX6_perform σ3 l1 l2 (fun σ4 =>
          ((sI σ4 10 3) = 0 → (
            wX9_sort σ4 (sL σ4 10 6) (fun r6 σ5 =>
            Q r6 σ5
            )
          )) ∧ (¬ (sI σ4 10 3) = 0 → (
            Q ((-10 : Int32) - (sI σ4 10 3)) σ4
          ))
          )
        )) ∧ (¬ (sI σ1 0 2) < (400 : Int32) → (
          Q (-104 : Int32) σ1
        ))
      ))
    ))
  ))
  )
set_option maxRecDepth 100000 in
set_option maxHeartbeats 4000000 in
theorem xX10_run {G : Gx} (hG : gLy G = LyC) {σ : Sg} {l1 : Int32} {l2 : Int32} {Q : Int32 → Sg → Prop} (h : wX10_run σ l1 l2 Q) : X G mX10_run 8 0 [(0, .ref (gad G 0)), (1, .int l1), (2, .int l2)] [] σ (qi Q) := by
  unfold wX10_run at h
  refine x_aload_n dX10_run_0 rfl 0 rfl ?_
  refine x_getR (q := 1) hG fg_X10_10 dX10_run_1 ?_
  refine x_iload_n dX10_run_4 rfl 1 rfl ?_
  refine x_callVi [_] hG mv_X0_has lk_X10_36 rfl rfl rfl ⟨by decide, by decide⟩ rfl (Nat.le_of_ble_eq_true rfl) dX10_run_5 (ct_X0_has hG h) (fun r2 σ1 h => ?_)
  refine x_if_ne dX10_run_8 14 (by decide) (fun c => ?_) (fun c => ?_)
  · replace h := h.1 c
    refine x_bipush (v := (-101 : Int32)) dX10_run_11 rfl ?_
    exact x_iret rfl dX10_run_13 ⟨_, rfl, h⟩
  · replace h := h.2 c
    refine x_iload_n dX10_run_14 rfl 2 rfl ?_
    refine x_iconst (v := (1 : Int32)) dX10_run_15 rfl ?_
    refine x_icmp_lt dX10_run_16 26 (by decide) (fun c => ?_) (fun c => ?_)
    · replace h := h.1 c
      refine x_bipush (v := (-102 : Int32)) dX10_run_26 rfl ?_
      exact x_iret rfl dX10_run_28 ⟨_, rfl, h⟩
    · replace h := h.2 c
      refine x_iload_n dX10_run_19 rfl 2 rfl ?_
      refine x_sipush (v := (200 : Int32)) dX10_run_20 rfl ?_
      refine x_icmp_le dX10_run_23 29 (by decide) (fun c => ?_) (fun c => ?_)
      · replace h := h.1 c
        refine x_bipush (v := (-102 : Int32)) dX10_run_26 rfl ?_
        exact x_iret rfl dX10_run_28 ⟨_, rfl, h⟩
      · replace h := h.2 c
        refine x_aload_n dX10_run_29 rfl 0 rfl ?_
        refine x_getIv hG fg_X10_25 dX10_run_30 rfl ?_
        refine x_sipush (v := (400 : Int32)) dX10_run_33 rfl ?_
        refine x_icmp_lt dX10_run_36 42 (by decide) (fun c => ?_) (fun c => ?_)
        · replace h := h.1 c
          refine x_aload_n dX10_run_42 rfl 0 rfl ?_
          refine x_dup dX10_run_43 rfl ?_
          refine x_getIv hG fg_X10_25 dX10_run_44 rfl ?_
          refine x_iconst (v := (1 : Int32)) dX10_run_47 rfl ?_
          refine x_iadd dX10_run_48 ?_
          refine x_putI hG fp_X10_25 dX10_run_49 ?_
          refine x_aload_n dX10_run_52 rfl 0 rfl ?_
          refine x_getR (q := 5) hG fg_X10_21 dX10_run_53 ?_
          refine x_iload_n dX10_run_56 rfl 1 rfl ?_
          refine x_iload_n dX10_run_57 rfl 2 rfl ?_
          refine x_callVv [_, _] hG mv_X6_perform lk_X10_44 rfl rfl rfl ⟨by decide, by decide⟩ rfl (Nat.le_of_ble_eq_true rfl) dX10_run_58 (ct_X6_perform hG h) (fun σ4 h => ?_)
          refine x_aload_n dX10_run_61 rfl 0 rfl ?_
          refine x_getR (q := 5) hG fg_X10_21 dX10_run_62 ?_
          refine x_getR (q := 10) hG fg_X10_48 dX10_run_65 ?_
          refine x_astore_n dX10_run_68 rfl (Nat.le_of_ble_eq_true rfl) (lv' := [(3, _), (0, _), (1, _), (2, _)]) rfl ?_
          refine x_aload_n dX10_run_69 rfl 0 rfl ?_
          refine x_getIv hG fg_X10_52 dX10_run_70 rfl ?_
          refine x_if_ne dX10_run_73 86 (by decide) (fun c => ?_) (fun c => ?_)
          · replace h := h.1 c
            refine x_aload_n dX10_run_76 rfl 0 rfl ?_
            refine x_getLv hG fg_X10_57 dX10_run_77 rfl ?_
            refine x_callSi [_] ms_X9_sort lk_X10_61 rfl ⟨by decide, by decide⟩ rfl (Nat.le_of_ble_eq_true rfl) dX10_run_80 (ct_X9_sort hG h) (fun r6 σ5 h => ?_)
            refine x_goto dX10_run_83 93 (by decide) ?_
            exact x_iret rfl dX10_run_93 ⟨_, rfl, h⟩
          · replace h := h.2 c
            refine x_bipush (v := (-10 : Int32)) dX10_run_86 rfl ?_
            refine x_aload_n dX10_run_88 rfl 0 rfl ?_
            refine x_getIv hG fg_X10_52 dX10_run_89 rfl ?_
            refine x_isub dX10_run_92 ?_
            exact x_iret rfl dX10_run_93 ⟨_, rfl, h⟩
        · replace h := h.2 c
          refine x_bipush (v := (-104 : Int32)) dX10_run_39 rfl ?_
          exact x_iret rfl dX10_run_41 ⟨_, rfl, h⟩
theorem ct_X10_run {G : Gx} (hG : gLy G = LyC) {σ : Sg} {l1 : Int32} {l2 : Int32} {Q : Int32 → Sg → Prop} (h : wX10_run σ l1 l2 Q) : CT G mX10_run 8 [.ref (gad G 0), .int l1, .int l2] σ (qi Q) := ct_of rfl (Nat.le_of_ble_eq_true rfl) rfl (xX10_run hG h)
/-! X10_ended ended -/
def wX10_ended (σ : Sg) (l1 : Int32) (Q : Int32 → Sg → Prop) : Prop :=
  (l1 = 0 → (
    Q (sI σ 10 3) σ
  )) ∧
  (l1 = 1 → (
    Q (sI σ 10 4) σ
  )) ∧
  (l1 = 2 → (
    Q (sI σ 10 5) σ
  )) ∧
  (l1 = 3 → (
    Q (sI σ 10 1) σ
  )) ∧
  (l1 = 4 → (
    Q (sI σ 10 2) σ
  )) ∧
  (¬ l1 = 0 → ¬ l1 = 1 → ¬ l1 = 2 → ¬ l1 = 3 → ¬ l1 = 4 → (
    Q (-102 : Int32) σ
  ))
set_option maxRecDepth 100000 in
set_option maxHeartbeats 4000000 in
theorem xX10_ended {G : Gx} (hG : gLy G = LyC) {σ : Sg} {l1 : Int32} {Q : Int32 → Sg → Prop} (h : wX10_ended σ l1 Q) : X G mX10_ended 1 0 [(0, .ref (gad G 0)), (1, .int l1)] [] σ (qi Q) := by
  unfold wX10_ended at h
  refine x_aload_n dX10_ended_0 rfl 0 rfl ?_
  refine x_getR (q := 5) hG fg_X10_21 dX10_ended_1 ?_
  refine x_getR (q := 10) hG fg_X10_48 dX10_ended_4 ?_
  refine x_astore_n dX10_ended_7 rfl (Nat.le_of_ble_eq_true rfl) (lv' := [(2, _), (0, _), (1, _)]) rfl ?_
  refine x_iload_n dX10_ended_8 rfl 2 rfl ?_
  refine x_case (0 : Int32) (fun c => ?_) (fun c0 => ?_)
  · refine x_tblIn (0 : Int32) 44 c dX10_ended_9 (by decide) (by decide) rfl (by decide) ?_
    replace h := h.1 c
    refine x_aload_n dX10_ended_44 rfl 0 rfl ?_
    refine x_getIv hG fg_X10_52 dX10_ended_45 rfl ?_
    exact x_iret rfl dX10_ended_48 ⟨_, rfl, h⟩
  replace h := h.2
  refine x_case (1 : Int32) (fun c => ?_) (fun c1 => ?_)
  · refine x_tblIn (1 : Int32) 49 c dX10_ended_9 (by decide) (by decide) rfl (by decide) ?_
    replace h := h.1 c
    refine x_aload_n dX10_ended_49 rfl 0 rfl ?_
    refine x_getIv hG fg_X10_67 dX10_ended_50 rfl ?_
    exact x_iret rfl dX10_ended_53 ⟨_, rfl, h⟩
  replace h := h.2
  refine x_case (2 : Int32) (fun c => ?_) (fun c2 => ?_)
  · refine x_tblIn (2 : Int32) 54 c dX10_ended_9 (by decide) (by decide) rfl (by decide) ?_
    replace h := h.1 c
    refine x_aload_n dX10_ended_54 rfl 0 rfl ?_
    refine x_getIv hG fg_X10_70 dX10_ended_55 rfl ?_
    exact x_iret rfl dX10_ended_58 ⟨_, rfl, h⟩
  replace h := h.2
  refine x_case (3 : Int32) (fun c => ?_) (fun c3 => ?_)
  · refine x_tblIn (3 : Int32) 59 c dX10_ended_9 (by decide) (by decide) rfl (by decide) ?_
    replace h := h.1 c
    refine x_aload_n dX10_ended_59 rfl 0 rfl ?_
    refine x_getIv hG fg_X10_73 dX10_ended_60 rfl ?_
    exact x_iret rfl dX10_ended_63 ⟨_, rfl, h⟩
  replace h := h.2
  refine x_case (4 : Int32) (fun c => ?_) (fun c4 => ?_)
  · refine x_tblIn (4 : Int32) 64 c dX10_ended_9 (by decide) (by decide) rfl (by decide) ?_
    replace h := h.1 c
    refine x_aload_n dX10_ended_64 rfl 0 rfl ?_
    refine x_getIv hG fg_X10_76 dX10_ended_65 rfl ?_
    exact x_iret rfl dX10_ended_68 ⟨_, rfl, h⟩
  replace h := h.2
  replace h := h c0 c1 c2 c3 c4
  refine x_tblOut [0, 1, 2, 3, 4] 5 69 (by decide) (by decide) (List.forall_mem_cons.mpr ⟨c0, List.forall_mem_cons.mpr ⟨c1, List.forall_mem_cons.mpr ⟨c2, List.forall_mem_cons.mpr ⟨c3, List.forall_mem_cons.mpr ⟨c4, fun _ h => absurd h List.not_mem_nil⟩⟩⟩⟩⟩) dX10_ended_9 (by decide) ?_
  refine x_bipush (v := (-102 : Int32)) dX10_ended_69 rfl ?_
  exact x_iret rfl dX10_ended_71 ⟨_, rfl, h⟩
theorem ct_X10_ended {G : Gx} (hG : gLy G = LyC) {σ : Sg} {l1 : Int32} {Q : Int32 → Sg → Prop} (h : wX10_ended σ l1 Q) : CT G mX10_ended 1 [.ref (gad G 0), .int l1] σ (qi Q) := ct_of rfl (Nat.le_of_ble_eq_true rfl) rfl (xX10_ended hG h)
/-! X10_gave gave -/
def wX10_gave (σ : Sg) (Q : Int32 → Sg → Prop) : Prop :=
  wX7_measure σ (sL σ 10 6) (fun r2 σ1 =>
  Q r2 σ1
  )
set_option maxRecDepth 100000 in
set_option maxHeartbeats 4000000 in
theorem xX10_gave {G : Gx} (hG : gLy G = LyC) {σ : Sg} {Q : Int32 → Sg → Prop} (h : wX10_gave σ Q) : X G mX10_gave 5 0 [(0, .ref (gad G 0))] [] σ (qi Q) := by
  unfold wX10_gave at h
  refine x_aload_n dX10_gave_0 rfl 0 rfl ?_
  refine x_getR (q := 5) hG fg_X10_21 dX10_gave_1 ?_
  refine x_getR (q := 6) hG fg_X10_79 dX10_gave_4 ?_
  refine x_aload_n dX10_gave_7 rfl 0 rfl ?_
  refine x_getR (q := 5) hG fg_X10_21 dX10_gave_8 ?_
  refine x_getR (q := 10) hG fg_X10_48 dX10_gave_11 ?_
  refine x_getLv hG fg_X10_57 dX10_gave_14 rfl ?_
  refine x_callVi [_] hG mv_X7_measure lk_X10_83 rfl rfl rfl ⟨by decide, by decide⟩ rfl (Nat.le_of_ble_eq_true rfl) dX10_gave_17 (ct_X7_measure hG h) (fun r2 σ1 h => ?_)
  exact x_iret rfl dX10_gave_20 ⟨_, rfl, h⟩
theorem ct_X10_gave {G : Gx} (hG : gLy G = LyC) {σ : Sg} {Q : Int32 → Sg → Prop} (h : wX10_gave σ Q) : CT G mX10_gave 5 [.ref (gad G 0)] σ (qi Q) := ct_of rfl (Nat.le_of_ble_eq_true rfl) rfl (xX10_gave hG h)
/-! X10_box box -/
def wX10_box (σ : Sg) (l1 : Int32) (Q : Int32 → Sg → Prop) : Prop :=
  wX7_isBox σ l1 (fun r2 σ1 =>
  (r2 = 0 → (
    Q (-102 : Int32) σ1
  )) ∧ (¬ r2 = 0 → (
    wX7_read σ1 l1 (fun r4 σ3 =>
    wX9_sort σ3 r4 (fun r6 σ5 =>
    Q r6 σ5
    )
    )
  ))
  )
set_option maxRecDepth 100000 in
set_option maxHeartbeats 4000000 in
theorem xX10_box {G : Gx} (hG : gLy G = LyC) {σ : Sg} {l1 : Int32} {Q : Int32 → Sg → Prop} (h : wX10_box σ l1 Q) : X G mX10_box 2 0 [(0, .ref (gad G 0)), (1, .int l1)] [] σ (qi Q) := by
  unfold wX10_box at h
  refine x_iload_n dX10_box_0 rfl 1 rfl ?_
  refine x_callSi [_] ms_X7_isBox lk_X10_113 rfl ⟨by decide, by decide⟩ rfl (Nat.le_of_ble_eq_true rfl) dX10_box_1 (ct_X7_isBox hG h) (fun r2 σ1 h => ?_)
  refine x_if_eq dX10_box_4 24 (by decide) (fun c => ?_) (fun c => ?_)
  · replace h := h.1 c
    refine x_bipush (v := (-102 : Int32)) dX10_box_24 rfl ?_
    exact x_iret rfl dX10_box_26 ⟨_, rfl, h⟩
  · replace h := h.2 c
    refine x_aload_n dX10_box_7 rfl 0 rfl ?_
    refine x_getR (q := 5) hG fg_X10_21 dX10_box_8 ?_
    refine x_getR (q := 6) hG fg_X10_79 dX10_box_11 ?_
    refine x_iload_n dX10_box_14 rfl 1 rfl ?_
    refine x_callVl [_] hG mv_X7_read lk_X10_106 rfl rfl rfl ⟨by decide, by decide⟩ rfl (Nat.le_of_ble_eq_true rfl) dX10_box_15 (ct_X7_read hG h) (fun r4 σ3 h => ?_)
    refine x_callSi [_] ms_X9_sort lk_X10_61 rfl ⟨by decide, by decide⟩ rfl (Nat.le_of_ble_eq_true rfl) dX10_box_18 (ct_X9_sort hG h) (fun r6 σ5 h => ?_)
    refine x_goto dX10_box_21 26 (by decide) ?_
    exact x_iret rfl dX10_box_26 ⟨_, rfl, h⟩
theorem ct_X10_box {G : Gx} (hG : gLy G = LyC) {σ : Sg} {l1 : Int32} {Q : Int32 → Sg → Prop} (h : wX10_box σ l1 Q) : CT G mX10_box 2 [.ref (gad G 0), .int l1] σ (qi Q) := ct_of rfl (Nat.le_of_ble_eq_true rfl) rfl (xX10_box hG h)
/-! X10_boxed boxed -/
def wX10_boxed (σ : Sg) (l1 : Int32) (Q : Int32 → Sg → Prop) : Prop :=
  wX7_isBox σ l1 (fun r2 σ1 =>
  (r2 = 0 → (
    Q (0 : Int32) σ1
  )) ∧ (¬ r2 = 0 → (
    wX7_read σ1 l1 (fun r4 σ3 =>
    wX7_measure σ3 r4 (fun r6 σ5 =>
    Q r6 σ5
    )
    )
  ))
  )
set_option maxRecDepth 100000 in
set_option maxHeartbeats 4000000 in
theorem xX10_boxed {G : Gx} (hG : gLy G = LyC) {σ : Sg} {l1 : Int32} {Q : Int32 → Sg → Prop} (h : wX10_boxed σ l1 Q) : X G mX10_boxed 5 0 [(0, .ref (gad G 0)), (1, .int l1)] [] σ (qi Q) := by
  unfold wX10_boxed at h
  refine x_iload_n dX10_boxed_0 rfl 1 rfl ?_
  refine x_callSi [_] ms_X7_isBox lk_X10_113 rfl ⟨by decide, by decide⟩ rfl (Nat.le_of_ble_eq_true rfl) dX10_boxed_1 (ct_X7_isBox hG h) (fun r2 σ1 h => ?_)
  refine x_if_eq dX10_boxed_4 31 (by decide) (fun c => ?_) (fun c => ?_)
  · replace h := h.1 c
    refine x_iconst (v := (0 : Int32)) dX10_boxed_31 rfl ?_
    exact x_iret rfl dX10_boxed_32 ⟨_, rfl, h⟩
  · replace h := h.2 c
    refine x_aload_n dX10_boxed_7 rfl 0 rfl ?_
    refine x_getR (q := 5) hG fg_X10_21 dX10_boxed_8 ?_
    refine x_getR (q := 6) hG fg_X10_79 dX10_boxed_11 ?_
    refine x_aload_n dX10_boxed_14 rfl 0 rfl ?_
    refine x_getR (q := 5) hG fg_X10_21 dX10_boxed_15 ?_
    refine x_getR (q := 6) hG fg_X10_79 dX10_boxed_18 ?_
    refine x_iload_n dX10_boxed_21 rfl 1 rfl ?_
    refine x_callVl [_] hG mv_X7_read lk_X10_106 rfl rfl rfl ⟨by decide, by decide⟩ rfl (Nat.le_of_ble_eq_true rfl) dX10_boxed_22 (ct_X7_read hG h) (fun r4 σ3 h => ?_)
    refine x_callVi [_] hG mv_X7_measure lk_X10_83 rfl rfl rfl ⟨by decide, by decide⟩ rfl (Nat.le_of_ble_eq_true rfl) dX10_boxed_25 (ct_X7_measure hG h) (fun r6 σ5 h => ?_)
    refine x_goto dX10_boxed_28 32 (by decide) ?_
    exact x_iret rfl dX10_boxed_32 ⟨_, rfl, h⟩
theorem ct_X10_boxed {G : Gx} (hG : gLy G = LyC) {σ : Sg} {l1 : Int32} {Q : Int32 → Sg → Prop} (h : wX10_boxed σ l1 Q) : CT G mX10_boxed 5 [.ref (gad G 0), .int l1] σ (qi Q) := ct_of rfl (Nat.le_of_ble_eq_true rfl) rfl (xX10_boxed hG h)
/-! X10_same same -/
def wX10_same (σ : Sg) (l1 : Int32) (l2 : Int32) (Q : Int32 → Sg → Prop) : Prop :=
  wX7_isBox σ l1 (fun r2 σ1 =>
  (r2 = 0 → (
    Q (-102 : Int32) σ1
  )) ∧ (¬ r2 = 0 → (
    wX7_isBox σ1 l2 (fun r4 σ3 =>
    (r4 = 0 → (
      Q (-102 : Int32) σ3
    )) ∧ (¬ r4 = 0 → (
      wX7_read σ3 l1 (fun r6 σ5 =>
      wX7_read σ5 l2 (fun r8 σ7 =>
      ((lg_cmp r6 r8) = 0 → (
        Q (1 : Int32) σ7
      )) ∧ (¬ (lg_cmp r6 r8) = 0 → (
        Q (0 : Int32) σ7
      ))
      )
      )
    ))
    )
  ))
  )
set_option maxRecDepth 100000 in
set_option maxHeartbeats 4000000 in
theorem xX10_same {G : Gx} (hG : gLy G = LyC) {σ : Sg} {l1 : Int32} {l2 : Int32} {Q : Int32 → Sg → Prop} (h : wX10_same σ l1 l2 Q) : X G mX10_same 2 0 [(0, .ref (gad G 0)), (1, .int l1), (2, .int l2)] [] σ (qi Q) := by
  unfold wX10_same at h
  refine x_iload_n dX10_same_0 rfl 1 rfl ?_
  refine x_callSi [_] ms_X7_isBox lk_X10_113 rfl ⟨by decide, by decide⟩ rfl (Nat.le_of_ble_eq_true rfl) dX10_same_1 (ct_X7_isBox hG h) (fun r2 σ1 h => ?_)
  refine x_if_eq dX10_same_4 14 (by decide) (fun c => ?_) (fun c => ?_)
  · replace h := h.1 c
    refine x_bipush (v := (-102 : Int32)) dX10_same_14 rfl ?_
    exact x_iret rfl dX10_same_16 ⟨_, rfl, h⟩
  · replace h := h.2 c
    refine x_iload_n dX10_same_7 rfl 2 rfl ?_
    refine x_callSi [_] ms_X7_isBox lk_X10_113 rfl ⟨by decide, by decide⟩ rfl (Nat.le_of_ble_eq_true rfl) dX10_same_8 (ct_X7_isBox hG h) (fun r4 σ3 h => ?_)
    refine x_if_ne dX10_same_11 17 (by decide) (fun c => ?_) (fun c => ?_)
    · replace h := h.1 c
      refine x_bipush (v := (-102 : Int32)) dX10_same_14 rfl ?_
      exact x_iret rfl dX10_same_16 ⟨_, rfl, h⟩
    · replace h := h.2 c
      refine x_aload_n dX10_same_17 rfl 0 rfl ?_
      refine x_getR (q := 5) hG fg_X10_21 dX10_same_18 ?_
      refine x_getR (q := 6) hG fg_X10_79 dX10_same_21 ?_
      refine x_iload_n dX10_same_24 rfl 1 rfl ?_
      refine x_callVl [_] hG mv_X7_read lk_X10_106 rfl rfl rfl ⟨by decide, by decide⟩ rfl (Nat.le_of_ble_eq_true rfl) dX10_same_25 (ct_X7_read hG h) (fun r6 σ5 h => ?_)
      refine x_aload_n dX10_same_28 rfl 0 rfl ?_
      refine x_getR (q := 5) hG fg_X10_21 dX10_same_29 ?_
      refine x_getR (q := 6) hG fg_X10_79 dX10_same_32 ?_
      refine x_iload_n dX10_same_35 rfl 2 rfl ?_
      refine x_callVl [_] hG mv_X7_read lk_X10_106 rfl rfl rfl ⟨by decide, by decide⟩ rfl (Nat.le_of_ble_eq_true rfl) dX10_same_36 (ct_X7_read hG h) (fun r8 σ7 h => ?_)
      refine x_lcmp dX10_same_39 ?_
      refine x_if_ne dX10_same_40 47 (by decide) (fun c => ?_) (fun c => ?_)
      · replace h := h.1 c
        refine x_iconst (v := (1 : Int32)) dX10_same_43 rfl ?_
        refine x_goto dX10_same_44 48 (by decide) ?_
        exact x_iret rfl dX10_same_48 ⟨_, rfl, h⟩
      · replace h := h.2 c
        refine x_iconst (v := (0 : Int32)) dX10_same_47 rfl ?_
        exact x_iret rfl dX10_same_48 ⟨_, rfl, h⟩
theorem ct_X10_same {G : Gx} (hG : gLy G = LyC) {σ : Sg} {l1 : Int32} {l2 : Int32} {Q : Int32 → Sg → Prop} (h : wX10_same σ l1 l2 Q) : CT G mX10_same 2 [.ref (gad G 0), .int l1, .int l2] σ (qi Q) := ct_of rfl (Nat.le_of_ble_eq_true rfl) rfl (xX10_same hG h)
/-! X10_out out -/
def wX10_out_15 (σ : Sg) (Q : Int32 → Sg → Prop) : Prop :=
  Q (-102 : Int32) σ
set_option maxRecDepth 100000 in
set_option maxHeartbeats 4000000 in
theorem xX10_out_15 {G : Gx} (hG : gLy G = LyC) {σ : Sg} {Q : Int32 → Sg → Prop} (h : wX10_out_15 σ Q) : X G mX10_out 1 15 [] [] σ (qi Q) := by
  unfold wX10_out_15 at h
  refine x_bipush (v := (-102 : Int32)) dX10_out_15 rfl ?_
  refine x_goto dX10_out_17 29 (by decide) ?_
  exact x_iret rfl dX10_out_29 ⟨_, rfl, h⟩
def wX10_out (σ : Sg) (l1 : Int32) (Q : Int32 → Sg → Prop) : Prop :=
  (l1 < 0 → (
    wX10_out_15 σ Q
  )) ∧ (¬ l1 < 0 → (
    (l1 < (sI σ 5 4) → (
      vp_in l1 40 ∧
      Q (sI σ 11 (l1).toNatClampNeg) σ
    )) ∧ (¬ l1 < (sI σ 5 4) → (
      wX10_out_15 σ Q
    ))
  ))
set_option maxRecDepth 100000 in
set_option maxHeartbeats 4000000 in
theorem xX10_out {G : Gx} (hG : gLy G = LyC) {σ : Sg} {l1 : Int32} {Q : Int32 → Sg → Prop} (h : wX10_out σ l1 Q) : X G mX10_out 1 0 [(0, .ref (gad G 0)), (1, .int l1)] [] σ (qi Q) := by
  unfold wX10_out at h
  refine x_iload_n dX10_out_0 rfl 1 rfl ?_
  refine x_if_lt dX10_out_1 15 (by decide) (fun c => ?_) (fun c => ?_)
  · replace h := h.1 c
    exact x_sub [] rfl (xX10_out_15 hG h)
  · replace h := h.2 c
    refine x_iload_n dX10_out_4 rfl 1 rfl ?_
    refine x_aload_n dX10_out_5 rfl 0 rfl ?_
    refine x_getR (q := 5) hG fg_X10_21 dX10_out_6 ?_
    refine x_getIv hG fg_X10_116 dX10_out_9 rfl ?_
    refine x_icmp_lt dX10_out_12 20 (by decide) (fun c => ?_) (fun c => ?_)
    · replace h := h.1 c
      refine x_aload_n dX10_out_20 rfl 0 rfl ?_
      refine x_getR (q := 5) hG fg_X10_21 dX10_out_21 ?_
      refine x_getR (q := 11) hG fg_X10_119 dX10_out_24 ?_
      refine x_iload_n dX10_out_27 rfl 1 rfl ?_
      refine x_ialdv hG rfl dX10_out_28 h.1 rfl ?_
      replace h := h.2
      exact x_iret rfl dX10_out_29 ⟨_, rfl, h⟩
    · replace h := h.2 c
      exact x_sub [] rfl (xX10_out_15 hG h)
theorem ct_X10_out {G : Gx} (hG : gLy G = LyC) {σ : Sg} {l1 : Int32} {Q : Int32 → Sg → Prop} (h : wX10_out σ l1 Q) : CT G mX10_out 1 [.ref (gad G 0), .int l1] σ (qi Q) := ct_of rfl (Nat.le_of_ble_eq_true rfl) rfl (xX10_out hG h)
/-! X10_count count -/
def wX10_count (σ : Sg) (l1 : Int32) (Q : Int32 → Sg → Prop) : Prop :=
  (l1 = 0 → (
    Q (sI σ 1 3) σ
  )) ∧
  (l1 = 1 → (
    Q (sI σ 5 4) σ
  )) ∧
  (l1 = 2 → (
    Q (sI σ 0 2) σ
  )) ∧
  (¬ l1 = 0 → ¬ l1 = 1 → ¬ l1 = 2 → (
    Q (-102 : Int32) σ
  ))
set_option maxRecDepth 100000 in
set_option maxHeartbeats 4000000 in
theorem xX10_count {G : Gx} (hG : gLy G = LyC) {σ : Sg} {l1 : Int32} {Q : Int32 → Sg → Prop} (h : wX10_count σ l1 Q) : X G mX10_count 1 0 [(0, .ref (gad G 0)), (1, .int l1)] [] σ (qi Q) := by
  unfold wX10_count at h
  refine x_iload_n dX10_count_0 rfl 1 rfl ?_
  refine x_case (0 : Int32) (fun c => ?_) (fun c0 => ?_)
  · refine x_tblIn (0 : Int32) 28 c dX10_count_1 (by decide) (by decide) rfl (by decide) ?_
    replace h := h.1 c
    refine x_aload_n dX10_count_28 rfl 0 rfl ?_
    refine x_getR (q := 1) hG fg_X10_10 dX10_count_29 ?_
    refine x_getIv hG fg_X10_123 dX10_count_32 rfl ?_
    exact x_iret rfl dX10_count_35 ⟨_, rfl, h⟩
  replace h := h.2
  refine x_case (1 : Int32) (fun c => ?_) (fun c1 => ?_)
  · refine x_tblIn (1 : Int32) 36 c dX10_count_1 (by decide) (by decide) rfl (by decide) ?_
    replace h := h.1 c
    refine x_aload_n dX10_count_36 rfl 0 rfl ?_
    refine x_getR (q := 5) hG fg_X10_21 dX10_count_37 ?_
    refine x_getIv hG fg_X10_116 dX10_count_40 rfl ?_
    exact x_iret rfl dX10_count_43 ⟨_, rfl, h⟩
  replace h := h.2
  refine x_case (2 : Int32) (fun c => ?_) (fun c2 => ?_)
  · refine x_tblIn (2 : Int32) 44 c dX10_count_1 (by decide) (by decide) rfl (by decide) ?_
    replace h := h.1 c
    refine x_aload_n dX10_count_44 rfl 0 rfl ?_
    refine x_getIv hG fg_X10_25 dX10_count_45 rfl ?_
    exact x_iret rfl dX10_count_48 ⟨_, rfl, h⟩
  replace h := h.2
  replace h := h c0 c1 c2
  refine x_tblOut [0, 1, 2] 3 49 (by decide) (by decide) (List.forall_mem_cons.mpr ⟨c0, List.forall_mem_cons.mpr ⟨c1, List.forall_mem_cons.mpr ⟨c2, fun _ h => absurd h List.not_mem_nil⟩⟩⟩) dX10_count_1 (by decide) ?_
  refine x_bipush (v := (-102 : Int32)) dX10_count_49 rfl ?_
  exact x_iret rfl dX10_count_51 ⟨_, rfl, h⟩
theorem ct_X10_count {G : Gx} (hG : gLy G = LyC) {σ : Sg} {l1 : Int32} {Q : Int32 → Sg → Prop} (h : wX10_count σ l1 Q) : CT G mX10_count 1 [.ref (gad G 0), .int l1] σ (qi Q) := ct_of rfl (Nat.le_of_ble_eq_true rfl) rfl (xX10_count hG h)
/-! X10_clear clear -/
def wX10_clear (σ : Sg) (Q : Int32 → Sg → Prop) : Prop :=
  let σ1 := wI σ 1 3 (0 : Int32)
  wX6_restart σ1 (0 : Int32) (fun σ2 =>
  Q (sI σ 1 3) σ2
  )
set_option maxRecDepth 100000 in
set_option maxHeartbeats 4000000 in
theorem xX10_clear {G : Gx} (hG : gLy G = LyC) {σ : Sg} {Q : Int32 → Sg → Prop} (h : wX10_clear σ Q) : X G mX10_clear 5 0 [(0, .ref (gad G 0))] [] σ (qi Q) := by
  unfold wX10_clear at h
  refine x_aload_n dX10_clear_0 rfl 0 rfl ?_
  refine x_getR (q := 1) hG fg_X10_10 dX10_clear_1 ?_
  refine x_getIv hG fg_X10_123 dX10_clear_4 rfl ?_
  refine x_istore_n dX10_clear_7 rfl (Nat.le_of_ble_eq_true rfl) (lv' := [(1, _), (0, _)]) rfl ?_
  refine x_aload_n dX10_clear_8 rfl 1 rfl ?_
  refine x_getR (q := 1) hG fg_X10_10 dX10_clear_9 ?_
  refine x_iconst (v := (0 : Int32)) dX10_clear_12 rfl ?_
  refine x_putI hG fp_X10_123 dX10_clear_13 ?_
  refine x_aload_n dX10_clear_16 rfl 1 rfl ?_
  refine x_getR (q := 5) hG fg_X10_21 dX10_clear_17 ?_
  refine x_iconst (v := (0 : Int32)) dX10_clear_20 rfl ?_
  refine x_callVv [_] hG mv_X6_restart lk_X10_126 rfl rfl rfl ⟨by decide, by decide⟩ rfl (Nat.le_of_ble_eq_true rfl) dX10_clear_21 (ct_X6_restart hG h) (fun σ2 h => ?_)
  refine x_iload_n dX10_clear_24 rfl 0 rfl ?_
  exact x_iret rfl dX10_clear_25 ⟨_, rfl, h⟩
theorem ct_X10_clear {G : Gx} (hG : gLy G = LyC) {σ : Sg} {Q : Int32 → Sg → Prop} (h : wX10_clear σ Q) : CT G mX10_clear 5 [.ref (gad G 0)] σ (qi Q) := ct_of rfl (Nat.le_of_ble_eq_true rfl) rfl (xX10_clear hG h)
