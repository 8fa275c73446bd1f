/-! X11_begin begin -/
def wX11_begin_324 (σ : Sg) (l2 : Int32) (s1 : Int32) (Q : Sg → Prop) : Prop :=
  wX11_start σ s1 l2 (fun σ1 =>
  Q σ1
  )
set_option maxRecDepth 100000 in
set_option maxHeartbeats 4000000 in
theorem xX11_begin_324 {G : Gx} (hG : gLy G = LyM) {σ : Sg} {l2 : Int32} {s1 : Int32} {Q : Sg → Prop} (h : wX11_begin_324 σ l2 s1 Q) : X G mX11_begin 2 324 [(2, .int l2)] [.int s1, .ref (gad G 0)] σ (qv Q) := by
  unfold wX11_begin_324 at h
  refine x_iload_n dX11_begin_324 rfl 0 rfl ?_
  refine x_callVv [_, _] hG mv_X11_start lk_X11_177 rfl rfl rfl ⟨by decide, by decide⟩ rfl (Nat.le_of_ble_eq_true rfl) dX11_begin_325 (ct_X11_start hG h) (fun σ1 h => ?_)
  exact x_vret rfl dX11_begin_328 ⟨rfl, h⟩
def wX11_begin_309 (σ : Sg) (l1 : Int32) (l2 : Int32) (Q : Sg → Prop) : Prop :=
  vp_in l1 60 ∧
  wX11_begin_324 σ l2 (sI σ 3 (l1).toNatClampNeg) Q
set_option maxRecDepth 100000 in
set_option maxHeartbeats 4000000 in
theorem xX11_begin_309 {G : Gx} (hG : gLy G = LyM) {σ : Sg} {l1 : Int32} {l2 : Int32} {Q : Sg → Prop} (h : wX11_begin_309 σ l1 l2 Q) : X G mX11_begin 2 309 [(0, .ref (gad G 0)), (1, .int l1), (2, .int l2)] [.ref (gad G 0)] σ (qv Q) := by
  unfold wX11_begin_309 at h
  refine x_aload_n dX11_begin_309 rfl 0 rfl ?_
  refine x_getR (q := 3) hG fg_X11_16 dX11_begin_310 ?_
  refine x_iload_n dX11_begin_313 rfl 1 rfl ?_
  refine x_ialdv hG rfl dX11_begin_314 h.1 rfl ?_
  replace h := h.2
  refine x_goto dX11_begin_315 324 (by decide) ?_
  exact x_sub [2] rfl (xX11_begin_324 hG h)
def wX11_begin (σ : Sg) (Q : Sg → Prop) : Prop :=
  ((sI σ 0 45) = (sI σ 0 46) → (
    wX11_finish σ (9 : Int32) (sI σ 0 37) (fun σ1 =>
    Q σ1
    )
  )) ∧ (¬ (sI σ 0 45) = (sI σ 0 46) → (
    let σ2 := wI σ 0 45 ((sI σ 0 45) + (1 : Int32))
    vp_in (sI σ 0 37) 60 ∧
    ((sI σ 1 ((sI σ 0 37)).toNatClampNeg) = 0 → (
      vp_in (sI σ 0 37) 60 ∧
      wX11_value σ2 (0 : Int32) (sI σ 2 ((sI σ 0 37)).toNatClampNeg) (fun σ3 =>
      Q σ3
      )
    )) ∧
    ((sI σ 1 ((sI σ 0 37)).toNatClampNeg) = 1 → (
      vp_in (sI σ 0 37) 60 ∧
      vp_in (((8 : Int32) * (sI σ 0 38)) + (sI σ 2 ((sI σ 0 37)).toNatClampNeg)) 1760 ∧
      vp_in (sI σ 0 37) 60 ∧
      vp_in (((8 : Int32) * (sI σ 0 38)) + (sI σ 2 ((sI σ 0 37)).toNatClampNeg)) 1760 ∧
      wX11_value σ2 (sI σ 13 ((((8 : Int32) * (sI σ 0 38)) + (sI σ 2 ((sI σ 0 37)).toNatClampNeg))).toNatClampNeg) (sI σ 14 ((((8 : Int32) * (sI σ 0 38)) + (sI σ 2 ((sI σ 0 37)).toNatClampNeg))).toNatClampNeg) (fun σ4 =>
      Q σ4
      )
    )) ∧
    ((sI σ 1 ((sI σ 0 37)).toNatClampNeg) = 2 → (
      wX11_value σ2 (1 : Int32) (0 : Int32) (fun σ5 =>
      Q σ5
      )
    )) ∧
    ((sI σ 1 ((sI σ 0 37)).toNatClampNeg) = 27 → (
      wX11_newThing σ2 (0 : Int32) (fun r7 σ6 =>
      vp_in (sI σ 0 37) 60 ∧
      vp_in r7 220 ∧
      let σ8 := wI σ6 8 (r7).toNatClampNeg (sI σ6 2 ((sI σ 0 37)).toNatClampNeg)
      vp_in r7 220 ∧
      let σ9 := wI σ8 9 (r7).toNatClampNeg (sI σ 0 38)
      vp_in r7 220 ∧
      let σ10 := wI σ9 10 (r7).toNatClampNeg (0 : Int32)
      wX11_value σ10 (7 : Int32) r7 (fun σ11 =>
      Q σ11
      )
      )
    )) ∧
    ((sI σ 1 ((sI σ 0 37)).toNatClampNeg) = 30 → (
      vp_in (sI σ 0 37) 60 ∧
      vp_in (sI σ 2 ((sI σ 0 37)).toNatClampNeg) 8 ∧
      vp_in (sI σ 0 37) 60 ∧
      vp_in (sI σ 2 ((sI σ 0 37)).toNatClampNeg) 8 ∧
      wX11_value σ2 (sI σ 15 ((sI σ 2 ((sI σ 0 37)).toNatClampNeg)).toNatClampNeg) (sI σ 16 ((sI σ 2 ((sI σ 0 37)).toNatClampNeg)).toNatClampNeg) (fun σ12 =>
      Q σ12
      )
    )) ∧
    (¬ (sI σ 1 ((sI σ 0 37)).toNatClampNeg) = 0 → ¬ (sI σ 1 ((sI σ 0 37)).toNatClampNeg) = 1 → ¬ (sI σ 1 ((sI σ 0 37)).toNatClampNeg) = 2 → ¬ (sI σ 1 ((sI σ 0 37)).toNatClampNeg) = 27 → ¬ (sI σ 1 ((sI σ 0 37)).toNatClampNeg) = 30 → (
      vp_in (sI σ 0 26) 220 ∧
      let σ13 := wI σ2 21 ((sI σ 0 26)).toNatClampNeg (sI σ 0 37)
      vp_in (sI σ 0 26) 220 ∧
      let σ14 := wI σ13 22 ((sI σ 0 26)).toNatClampNeg (0 : Int32)
      vp_in (sI σ 0 26) 220 ∧
      let σ15 := wI σ14 23 ((sI σ 0 26)).toNatClampNeg (sI σ 0 38)
      vp_in (sI σ 0 26) 220 ∧
      let σ16 := wI σ15 28 ((sI σ 0 26)).toNatClampNeg (sI σ 0 20)
      let σ17 := wI σ16 0 26 ((sI σ 0 26) + (1 : Int32))
      vp_in (sI σ 0 37) 60 ∧
      ((sI σ 1 ((sI σ 0 37)).toNatClampNeg) = (25 : Int32) → (
        wX11_begin_309 σ17 (sI σ 0 37) (sI σ 0 38) Q
      )) ∧ (¬ (sI σ 1 ((sI σ 0 37)).toNatClampNeg) = (25 : Int32) → (
        vp_in (sI σ 0 37) 60 ∧
        ((sI σ 1 ((sI σ 0 37)).toNatClampNeg) = (31 : Int32) → (
          wX11_begin_309 σ17 (sI σ 0 37) (sI σ 0 38) Q
        )) ∧ (¬ (sI σ 1 ((sI σ 0 37)).toNatClampNeg) = (31 : Int32) → (
          vp_in (sI σ 0 37) 60 ∧
          wX11_begin_324 σ17 (sI σ 0 38) (sI σ 2 ((sI σ 0 37)).toNatClampNeg) Q
        ))
      ))
    ))
  ))
set_option maxRecDepth 100000 in
set_option maxHeartbeats 4000000 in
theorem xX11_begin {G : Gx} (hG : gLy G = LyM) {σ : Sg} {Q : Sg → Prop} (h : wX11_begin σ Q) : X G mX11_begin 2 0 [(0, .ref (gad G 0))] [] σ (qv Q) := by
  unfold wX11_begin at h
  refine x_aload_n dX11_begin_0 rfl 0 rfl ?_
  refine x_getIv hG fg_X11_162 dX11_begin_1 rfl ?_
  refine x_aload_n dX11_begin_4 rfl 0 rfl ?_
  refine x_getIv hG fg_X11_165 dX11_begin_5 rfl ?_
  refine x_icmp_ne dX11_begin_8 22 (by decide) (fun c => ?_) (fun c => ?_)
  · replace h := h.1 c
    refine x_aload_n dX11_begin_11 rfl 0 rfl ?_
    refine x_bipush (v := (9 : Int32)) dX11_begin_12 rfl ?_
    refine x_aload_n dX11_begin_14 rfl 0 rfl ?_
    refine x_getIv hG fg_X11_131 dX11_begin_15 rfl ?_
    refine x_callVv [_, _] hG mv_X11_finish lk_X11_149 rfl rfl rfl ⟨by decide, by decide⟩ rfl (Nat.le_of_ble_eq_true rfl) dX11_begin_18 (ct_X11_finish hG h) (fun σ1 h => ?_)
    exact x_vret rfl dX11_begin_21 ⟨rfl, h⟩
  · replace h := h.2 c
    refine x_aload_n dX11_begin_22 rfl 0 rfl ?_
    refine x_dup dX11_begin_23 rfl ?_
    refine x_getIv hG fg_X11_162 dX11_begin_24 rfl ?_
    refine x_iconst (v := (1 : Int32)) dX11_begin_27 rfl ?_
    refine x_iadd dX11_begin_28 ?_
    refine x_putI hG fp_X11_162 dX11_begin_29 ?_
    refine x_aload_n dX11_begin_32 rfl 0 rfl ?_
    refine x_getIv hG fg_X11_131 dX11_begin_33 (rd_nj (by decide) rfl) ?_
    refine x_istore_n dX11_begin_36 rfl (Nat.le_of_ble_eq_true rfl) (lv' := [(1, _), (0, _)]) rfl ?_
    refine x_aload_n dX11_begin_37 rfl 1 rfl ?_
    refine x_getIv hG fg_X11_134 dX11_begin_38 (rd_nj (by decide) rfl) ?_
    refine x_istore_n dX11_begin_41 rfl (Nat.le_of_ble_eq_true rfl) (lv' := [(2, _), (1, _), (0, _)]) rfl ?_
    refine x_aload_n dX11_begin_42 rfl 2 rfl ?_
    refine x_getR (q := 1) hG fg_X11_7 dX11_begin_43 ?_
    refine x_iload_n dX11_begin_46 rfl 1 rfl ?_
    refine x_ialdv hG rfl dX11_begin_47 h.1 (rd_no (by decide) rfl) ?_
    replace h := h.2
    refine x_case (0 : Int32) (fun c => ?_) (fun c0 => ?_)
    · refine x_lookIn (off := 52) (0 : Int32) 100 c dX11_begin_48 (by decide) (by decide) (by decide) ?_
      replace h := h.1 c
      refine x_aload_n dX11_begin_100 rfl 2 rfl ?_
      refine x_iconst (v := (0 : Int32)) dX11_begin_101 rfl ?_
      refine x_aload_n dX11_begin_102 rfl 2 rfl ?_
      refine x_getR (q := 2) hG fg_X11_13 dX11_begin_103 ?_
      refine x_iload_n dX11_begin_106 rfl 1 rfl ?_
      refine x_ialdv hG rfl dX11_begin_107 h.1 (rd_no (by decide) rfl) ?_
      replace h := h.2
      refine x_callVv [_, _] hG mv_X11_value lk_X11_168 rfl rfl rfl ⟨by decide, by decide⟩ rfl (Nat.le_of_ble_eq_true rfl) dX11_begin_108 (ct_X11_value hG h) (fun σ3 h => ?_)
      refine x_goto dX11_begin_111 328 (by decide) ?_
      exact x_vret rfl dX11_begin_328 ⟨rfl, h⟩
    replace h := h.2
    refine x_case (1 : Int32) (fun c => ?_) (fun c1 => ?_)
    · refine x_lookIn (off := 66) (1 : Int32) 114 c dX11_begin_48 (by decide) (by decide) (by decide) ?_
      replace h := h.1 c
      refine x_aload_n dX11_begin_114 rfl 2 rfl ?_
      refine x_aload_n dX11_begin_115 rfl 2 rfl ?_
      refine x_getR (q := 13) hG fg_X11_46 dX11_begin_116 ?_
      refine x_bipush (v := (8 : Int32)) dX11_begin_119 rfl ?_
      refine x_iload_n dX11_begin_121 rfl 0 rfl ?_
      refine x_imul dX11_begin_122 ?_
      refine x_aload_n dX11_begin_123 rfl 2 rfl ?_
      refine x_getR (q := 2) hG fg_X11_13 dX11_begin_124 ?_
      refine x_iload_n dX11_begin_127 rfl 1 rfl ?_
      refine x_ialdv hG rfl dX11_begin_128 h.1 (rd_no (by decide) rfl) ?_
      replace h := h.2
      refine x_iadd dX11_begin_129 ?_
      refine x_ialdv hG rfl dX11_begin_130 h.1 (rd_no (by decide) rfl) ?_
      replace h := h.2
      refine x_aload_n dX11_begin_131 rfl 2 rfl ?_
      refine x_getR (q := 14) hG fg_X11_49 dX11_begin_132 ?_
      refine x_bipush (v := (8 : Int32)) dX11_begin_135 rfl ?_
      refine x_iload_n dX11_begin_137 rfl 0 rfl ?_
      refine x_imul dX11_begin_138 ?_
      refine x_aload_n dX11_begin_139 rfl 2 rfl ?_
      refine x_getR (q := 2) hG fg_X11_13 dX11_begin_140 ?_
      refine x_iload_n dX11_begin_143 rfl 1 rfl ?_
      refine x_ialdv hG rfl dX11_begin_144 h.1 (rd_no (by decide) rfl) ?_
      replace h := h.2
      refine x_iadd dX11_begin_145 ?_
      refine x_ialdv hG rfl dX11_begin_146 h.1 (rd_no (by decide) rfl) ?_
      replace h := h.2
      refine x_callVv [_, _] hG mv_X11_value lk_X11_168 rfl rfl rfl ⟨by decide, by decide⟩ rfl (Nat.le_of_ble_eq_true rfl) dX11_begin_147 (ct_X11_value hG h) (fun σ4 h => ?_)
      refine x_goto dX11_begin_150 328 (by decide) ?_
      exact x_vret rfl dX11_begin_328 ⟨rfl, h⟩
    replace h := h.2
    refine x_case (2 : Int32) (fun c => ?_) (fun c2 => ?_)
    · refine x_lookIn (off := 105) (2 : Int32) 153 c dX11_begin_48 (by decide) (by decide) (by decide) ?_
      replace h := h.1 c
      refine x_aload_n dX11_begin_153 rfl 2 rfl ?_
      refine x_iconst (v := (1 : Int32)) dX11_begin_154 rfl ?_
      refine x_iconst (v := (0 : Int32)) dX11_begin_155 rfl ?_
      refine x_callVv [_, _] hG mv_X11_value lk_X11_168 rfl rfl rfl ⟨by decide, by decide⟩ rfl (Nat.le_of_ble_eq_true rfl) dX11_begin_156 (ct_X11_value hG h) (fun σ5 h => ?_)
      refine x_goto dX11_begin_159 328 (by decide) ?_
      exact x_vret rfl dX11_begin_328 ⟨rfl, h⟩
    replace h := h.2
    refine x_case (27 : Int32) (fun c => ?_) (fun c3 => ?_)
    · refine x_lookIn (off := 114) (27 : Int32) 162 c dX11_begin_48 (by decide) (by decide) (by decide) ?_
      replace h := h.1 c
      refine x_aload_n dX11_begin_162 rfl 2 rfl ?_
      refine x_iconst (v := (0 : Int32)) dX11_begin_163 rfl ?_
      refine x_callVi [_] hG mv_X11_newThing lk_X11_171 rfl rfl rfl ⟨by decide, by decide⟩ rfl (Nat.le_of_ble_eq_true rfl) dX11_begin_164 (ct_X11_newThing hG h) (fun r7 σ6 h => ?_)
      refine x_istore_n dX11_begin_167 rfl (Nat.le_of_ble_eq_true rfl) (lv' := [(3, _), (2, _), (1, _), (0, _)]) rfl ?_
      refine x_aload_n dX11_begin_168 rfl 3 rfl ?_
      refine x_getR (q := 8) hG fg_X11_31 dX11_begin_169 ?_
      refine x_iload_n dX11_begin_172 rfl 0 rfl ?_
      refine x_aload_n dX11_begin_173 rfl 3 rfl ?_
      refine x_getR (q := 2) hG fg_X11_13 dX11_begin_174 ?_
      refine x_iload_n dX11_begin_177 rfl 2 rfl ?_
      refine x_ialdv hG rfl dX11_begin_178 h.1 rfl ?_
      replace h := h.2
      refine x_iast hG rfl dX11_begin_179 h.1 ?_
      replace h := h.2
      refine x_aload_n dX11_begin_180 rfl 3 rfl ?_
      refine x_getR (q := 9) hG fg_X11_34 dX11_begin_181 ?_
      refine x_iload_n dX11_begin_184 rfl 0 rfl ?_
      refine x_iload_n dX11_begin_185 rfl 1 rfl ?_
      refine x_iast hG rfl dX11_begin_186 h.1 ?_
      replace h := h.2
      refine x_aload_n dX11_begin_187 rfl 3 rfl ?_
      refine x_getR (q := 10) hG fg_X11_37 dX11_begin_188 ?_
      refine x_iload_n dX11_begin_191 rfl 0 rfl ?_
      refine x_iconst (v := (0 : Int32)) dX11_begin_192 rfl ?_
      refine x_iast hG rfl dX11_begin_193 h.1 ?_
      replace h := h.2
      refine x_aload_n dX11_begin_194 rfl 3 rfl ?_
      refine x_bipush (v := (7 : Int32)) dX11_begin_195 rfl ?_
      refine x_iload_n dX11_begin_197 rfl 0 rfl ?_
      refine x_callVv [_, _] hG mv_X11_value lk_X11_168 rfl rfl rfl ⟨by decide, by decide⟩ rfl (Nat.le_of_ble_eq_true rfl) dX11_begin_198 (ct_X11_value hG h) (fun σ11 h => ?_)
      refine x_goto dX11_begin_201 328 (by decide) ?_
      exact x_vret rfl dX11_begin_328 ⟨rfl, h⟩
    replace h := h.2
    refine x_case (30 : Int32) (fun c => ?_) (fun c4 => ?_)
    · refine x_lookIn (off := 156) (30 : Int32) 204 c dX11_begin_48 (by decide) (by decide) (by decide) ?_
      replace h := h.1 c
      refine x_aload_n dX11_begin_204 rfl 2 rfl ?_
      refine x_aload_n dX11_begin_205 rfl 2 rfl ?_
      refine x_getR (q := 15) hG fg_X11_52 dX11_begin_206 ?_
      refine x_aload_n dX11_begin_209 rfl 2 rfl ?_
      refine x_getR (q := 2) hG fg_X11_13 dX11_begin_210 ?_
      refine x_iload_n dX11_begin_213 rfl 1 rfl ?_
      refine x_ialdv hG rfl dX11_begin_214 h.1 (rd_no (by decide) rfl) ?_
      replace h := h.2
      refine x_ialdv hG rfl dX11_begin_215 h.1 (rd_no (by decide) rfl) ?_
      replace h := h.2
      refine x_aload_n dX11_begin_216 rfl 2 rfl ?_
      refine x_getR (q := 16) hG fg_X11_55 dX11_begin_217 ?_
      refine x_aload_n dX11_begin_220 rfl 2 rfl ?_
      refine x_getR (q := 2) hG fg_X11_13 dX11_begin_221 ?_
      refine x_iload_n dX11_begin_224 rfl 1 rfl ?_
      refine x_ialdv hG rfl dX11_begin_225 h.1 (rd_no (by decide) rfl) ?_
      replace h := h.2
      refine x_ialdv hG rfl dX11_begin_226 h.1 (rd_no (by decide) rfl) ?_
      replace h := h.2
      refine x_callVv [_, _] hG mv_X11_value lk_X11_168 rfl rfl rfl ⟨by decide, by decide⟩ rfl (Nat.le_of_ble_eq_true rfl) dX11_begin_227 (ct_X11_value hG h) (fun σ12 h => ?_)
      refine x_goto dX11_begin_230 328 (by decide) ?_
      exact x_vret rfl dX11_begin_328 ⟨rfl, h⟩
    replace h := h.2
    replace h := h c0 c1 c2 c3 c4
    refine x_lookOut 233 dX11_begin_48 (by decide) (by refine (lv_osw c0 rfl).trans ?_; refine (lv_osw c1 rfl).trans ?_; refine (lv_osw c2 rfl).trans ?_; refine (lv_osw c3 rfl).trans ?_; refine (lv_osw c4 rfl).trans ?_; rfl) (by decide) ?_
    refine x_aload_n dX11_begin_233 rfl 2 rfl ?_
    refine x_getR (q := 21) hG fg_X11_70 dX11_begin_234 ?_
    refine x_aload_n dX11_begin_237 rfl 2 rfl ?_
    refine x_getIv hG fg_X11_174 dX11_begin_238 (rd_nj (by decide) rfl) ?_
    refine x_iload_n dX11_begin_241 rfl 1 rfl ?_
    refine x_iast hG rfl dX11_begin_242 h.1 ?_
    replace h := h.2
    refine x_aload_n dX11_begin_243 rfl 2 rfl ?_
    refine x_getR (q := 22) hG fg_X11_73 dX11_begin_244 ?_
    refine x_aload_n dX11_begin_247 rfl 2 rfl ?_
    refine x_getIv hG fg_X11_174 dX11_begin_248 (rd_no (by decide) (rd_nj (by decide) rfl)) ?_
    refine x_iconst (v := (0 : Int32)) dX11_begin_251 rfl ?_
    refine x_iast hG rfl dX11_begin_252 h.1 ?_
    replace h := h.2
    refine x_aload_n dX11_begin_253 rfl 2 rfl ?_
    refine x_getR (q := 23) hG fg_X11_76 dX11_begin_254 ?_
    refine x_aload_n dX11_begin_257 rfl 2 rfl ?_
    refine x_getIv hG fg_X11_174 dX11_begin_258 (rd_no (by decide) (rd_no (by decide) (rd_nj (by decide) rfl))) ?_
    refine x_iload_n dX11_begin_261 rfl 0 rfl ?_
    refine x_iast hG rfl dX11_begin_262 h.1 ?_
    replace h := h.2
    refine x_aload_n dX11_begin_263 rfl 2 rfl ?_
    refine x_getR (q := 28) hG fg_X11_91 dX11_begin_264 ?_
    refine x_aload_n dX11_begin_267 rfl 2 rfl ?_
    refine x_getIv hG fg_X11_174 dX11_begin_268 (rd_no (by decide) (rd_no (by decide) (rd_no (by decide) (rd_nj (by decide) rfl)))) ?_
    refine x_aload_n dX11_begin_271 rfl 2 rfl ?_
    refine x_getIv hG fg_X11_159 dX11_begin_272 (rd_no (by decide) (rd_no (by decide) (rd_no (by decide) (rd_nj (by decide) rfl)))) ?_
    refine x_iast hG rfl dX11_begin_275 h.1 ?_
    replace h := h.2
    refine x_aload_n dX11_begin_276 rfl 2 rfl ?_
    refine x_dup dX11_begin_277 rfl ?_
    refine x_getIv hG fg_X11_174 dX11_begin_278 (rd_no (by decide) (rd_no (by decide) (rd_no (by decide) (rd_no (by decide) (rd_nj (by decide) rfl))))) ?_
    refine x_iconst (v := (1 : Int32)) dX11_begin_281 rfl ?_
    refine x_iadd dX11_begin_282 ?_
    refine x_putI hG fp_X11_174 dX11_begin_283 ?_
    refine x_aload_n dX11_begin_286 rfl 2 rfl ?_
    refine x_aload_n dX11_begin_287 rfl 2 rfl ?_
    refine x_getR (q := 1) hG fg_X11_7 dX11_begin_288 ?_
    refine x_iload_n dX11_begin_291 rfl 1 rfl ?_
    refine x_ialdv hG rfl dX11_begin_292 h.1 (rd_no (by decide) (rd_no (by decide) (rd_no (by decide) (rd_no (by decide) (rd_no (by decide) (rd_no (by decide) rfl)))))) ?_
    replace h := h.2
    refine x_bipush (v := (25 : Int32)) dX11_begin_293 rfl ?_
    refine x_icmp_eq dX11_begin_295 309 (by decide) (fun c => ?_) (fun c => ?_)
    · replace h := h.1 c
      exact x_sub [2, 1, 0] rfl (xX11_begin_309 hG h)
    · replace h := h.2 c
      refine x_aload_n dX11_begin_298 rfl 2 rfl ?_
      refine x_getR (q := 1) hG fg_X11_7 dX11_begin_299 ?_
      refine x_iload_n dX11_begin_302 rfl 1 rfl ?_
      refine x_ialdv hG rfl dX11_begin_303 h.1 (rd_no (by decide) (rd_no (by decide) (rd_no (by decide) (rd_no (by decide) (rd_no (by decide) (rd_no (by decide) rfl)))))) ?_
      replace h := h.2
      refine x_bipush (v := (31 : Int32)) dX11_begin_304 rfl ?_
      refine x_icmp_ne dX11_begin_306 318 (by decide) (fun c => ?_) (fun c => ?_)
      · replace h := h.1 c
        exact x_sub [2, 1, 0] rfl (xX11_begin_309 hG h)
      · replace h := h.2 c
        refine x_aload_n dX11_begin_318 rfl 2 rfl ?_
        refine x_getR (q := 2) hG fg_X11_13 dX11_begin_319 ?_
        refine x_iload_n dX11_begin_322 rfl 1 rfl ?_
        refine x_ialdv hG rfl dX11_begin_323 h.1 (rd_no (by decide) (rd_no (by decide) (rd_no (by decide) (rd_no (by decide) (rd_no (by decide) (rd_no (by decide) rfl)))))) ?_
        replace h := h.2
        exact x_sub [0] rfl (xX11_begin_324 hG h)
theorem ct_X11_begin {G : Gx} (hG : gLy G = LyM) {σ : Sg} {Q : Sg → Prop} (h : wX11_begin σ Q) : CT G mX11_begin 2 [.ref (gad G 0)] σ (qv Q) := ct_of rfl (Nat.le_of_ble_eq_true rfl) rfl (xX11_begin hG h)
/-! X11_reckon reckon -/
def wX11_reckon_47 (σ : Sg) (s1 : Int32) (s2 : Int32) (Q : Sg → Prop) : Prop :=
  wX11_value σ s1 s2 (fun σ1 =>
  Q σ1
  )
set_option maxRecDepth 100000 in
set_option maxHeartbeats 4000000 in
theorem xX11_reckon_47 {G : Gx} (hG : gLy G = LyM) {σ : Sg} {s1 : Int32} {s2 : Int32} {Q : Sg → Prop} (h : wX11_reckon_47 σ s1 s2 Q) : X G mX11_reckon 4 47 [] [.int s2, .int s1, .ref (gad G 0)] σ (qv Q) := by
  unfold wX11_reckon_47 at h
  refine x_callVv [_, _] hG mv_X11_value lk_X11_168 rfl rfl rfl ⟨by decide, by decide⟩ rfl (Nat.le_of_ble_eq_true rfl) dX11_reckon_47 (ct_X11_value hG h) (fun σ1 h => ?_)
  exact x_vret rfl dX11_reckon_50 ⟨rfl, h⟩
def wX11_reckon_33 (σ : Sg) (s0 : Int32) (Q : Sg → Prop) : Prop :=
  (s0 = 0 → (
    wX11_reckon_47 σ (0 : Int32) (0 : Int32) Q
  )) ∧ (¬ s0 = 0 → (
    wX11_reckon_47 σ (0 : Int32) (1 : Int32) Q
  ))
set_option maxRecDepth 100000 in
set_option maxHeartbeats 4000000 in
theorem xX11_reckon_33 {G : Gx} (hG : gLy G = LyM) {σ : Sg} {s0 : Int32} {Q : Sg → Prop} (h : wX11_reckon_33 σ s0 Q) : X G mX11_reckon 4 33 [(0, .ref (gad G 0))] [.int s0] σ (qv Q) := by
  unfold wX11_reckon_33 at h
  refine x_istore dX11_reckon_33 (Nat.le_of_ble_eq_true rfl) (lv' := [(5, _), (0, _)]) rfl ?_
  refine x_aload_n dX11_reckon_35 rfl 1 rfl ?_
  refine x_iconst (v := (0 : Int32)) dX11_reckon_36 rfl ?_
  refine x_iload dX11_reckon_37 0 rfl ?_
  refine x_if_eq dX11_reckon_39 46 (by decide) (fun c => ?_) (fun c => ?_)
  · replace h := h.1 c
    refine x_iconst (v := (0 : Int32)) dX11_reckon_46 rfl ?_
    exact x_sub [] rfl (xX11_reckon_47 hG h)
  · replace h := h.2 c
    refine x_iconst (v := (1 : Int32)) dX11_reckon_42 rfl ?_
    refine x_goto dX11_reckon_43 47 (by decide) ?_
    exact x_sub [] rfl (xX11_reckon_47 hG h)
def wX11_reckon_28 (σ : Sg) (Q : Sg → Prop) : Prop :=
  wX11_reckon_33 σ (1 : Int32) Q
set_option maxRecDepth 100000 in
set_option maxHeartbeats 4000000 in
theorem xX11_reckon_28 {G : Gx} (hG : gLy G = LyM) {σ : Sg} {Q : Sg → Prop} (h : wX11_reckon_28 σ Q) : X G mX11_reckon 4 28 [(0, .ref (gad G 0))] [] σ (qv Q) := by
  unfold wX11_reckon_28 at h
  refine x_iconst (v := (1 : Int32)) dX11_reckon_28 rfl ?_
  refine x_goto dX11_reckon_29 33 (by decide) ?_
  exact x_sub [0] rfl (xX11_reckon_33 hG h)
def wX11_reckon_32 (σ : Sg) (Q : Sg → Prop) : Prop :=
  wX11_reckon_33 σ (0 : Int32) Q
set_option maxRecDepth 100000 in
set_option maxHeartbeats 4000000 in
theorem xX11_reckon_32 {G : Gx} (hG : gLy G = LyM) {σ : Sg} {Q : Sg → Prop} (h : wX11_reckon_32 σ Q) : X G mX11_reckon 4 32 [(0, .ref (gad G 0))] [] σ (qv Q) := by
  unfold wX11_reckon_32 at h
  refine x_iconst (v := (0 : Int32)) dX11_reckon_32 rfl ?_
  exact x_sub [0] rfl (xX11_reckon_33 hG h)
def wX11_reckon_125 (σ : Sg) (s1 : Int32) (s2 : Int32) (Q : Sg → Prop) : Prop :=
  wX11_value σ s1 s2 (fun σ1 =>
  Q σ1
  )
set_option maxRecDepth 100000 in
set_option maxHeartbeats 4000000 in
theorem xX11_reckon_125 {G : Gx} (hG : gLy G = LyM) {σ : Sg} {s1 : Int32} {s2 : Int32} {Q : Sg → Prop} (h : wX11_reckon_125 σ s1 s2 Q) : X G mX11_reckon 4 125 [] [.int s2, .int s1, .ref (gad G 0)] σ (qv Q) := by
  unfold wX11_reckon_125 at h
  refine x_callVv [_, _] hG mv_X11_value lk_X11_168 rfl rfl rfl ⟨by decide, by decide⟩ rfl (Nat.le_of_ble_eq_true rfl) dX11_reckon_125 (ct_X11_value hG h) (fun σ1 h => ?_)
  refine x_goto dX11_reckon_128 175 (by decide) ?_
  exact x_vret rfl dX11_reckon_175 ⟨rfl, h⟩
def wX11_reckon_172 (σ : Sg) (s1 : Int32) (s2 : Int32) (Q : Sg → Prop) : Prop :=
  wX11_value σ s1 s2 (fun σ1 =>
  Q σ1
  )
set_option maxRecDepth 100000 in
set_option maxHeartbeats 4000000 in
theorem xX11_reckon_172 {G : Gx} (hG : gLy G = LyM) {σ : Sg} {s1 : Int32} {s2 : Int32} {Q : Sg → Prop} (h : wX11_reckon_172 σ s1 s2 Q) : X G mX11_reckon 4 172 [] [.int s2, .int s1, .ref (gad G 0)] σ (qv Q) := by
  unfold wX11_reckon_172 at h
  refine x_callVv [_, _] hG mv_X11_value lk_X11_168 rfl rfl rfl ⟨by decide, by decide⟩ rfl (Nat.le_of_ble_eq_true rfl) dX11_reckon_172 (ct_X11_value hG h) (fun σ1 h => ?_)
  exact x_vret rfl dX11_reckon_175 ⟨rfl, h⟩
def wX11_reckon_100 (σ : Sg) (l2 : Int32) (l4 : Int32) (l5 : Int32) (Q : Sg → Prop) : Prop :=
  (l2 = (7 : Int32) → (
    (l5 = (-1 : Int32) → (
      wX11_reckon_125 σ (0 : Int32) (-l4) Q
    )) ∧ (¬ l5 = (-1 : Int32) → (
      ¬ l5 = 0 ∧
      wX11_reckon_125 σ (0 : Int32) (l4 / l5) Q
    ))
  )) ∧ (¬ l2 = (7 : Int32) → (
    (l2 = (5 : Int32) → (
      wX11_reckon_172 σ (0 : Int32) (l4 + l5) Q
    )) ∧ (¬ l2 = (5 : Int32) → (
      (l2 = (6 : Int32) → (
        wX11_reckon_172 σ (0 : Int32) (l4 * l5) Q
      )) ∧ (¬ l2 = (6 : Int32) → (
        (l4 < l5 → (
          wX11_reckon_172 σ (0 : Int32) (1 : Int32) Q
        )) ∧ (¬ l4 < l5 → (
          wX11_reckon_172 σ (0 : Int32) (0 : Int32) Q
        ))
      ))
    ))
  ))
set_option maxRecDepth 100000 in
set_option maxHeartbeats 4000000 in
theorem xX11_reckon_100 {G : Gx} (hG : gLy G = LyM) {σ : Sg} {l2 : Int32} {l4 : Int32} {l5 : Int32} {Q : Sg → Prop} (h : wX11_reckon_100 σ l2 l4 l5 Q) : X G mX11_reckon 4 100 [(0, .ref (gad G 0)), (2, .int l2), (4, .int l4), (5, .int l5)] [] σ (qv Q) := by
  unfold wX11_reckon_100 at h
  refine x_iload_n dX11_reckon_100 rfl 1 rfl ?_
  refine x_bipush (v := (7 : Int32)) dX11_reckon_101 rfl ?_
  refine x_icmp_ne dX11_reckon_103 131 (by decide) (fun c => ?_) (fun c => ?_)
  · replace h := h.1 c
    refine x_aload_n dX11_reckon_106 rfl 0 rfl ?_
    refine x_iconst (v := (0 : Int32)) dX11_reckon_107 rfl ?_
    refine x_iload dX11_reckon_108 3 rfl ?_
    refine x_iconst (v := (-1 : Int32)) dX11_reckon_110 rfl ?_
    refine x_icmp_ne dX11_reckon_111 120 (by decide) (fun c => ?_) (fun c => ?_)
    · replace h := h.1 c
      refine x_iload dX11_reckon_114 2 rfl ?_
      refine x_ineg dX11_reckon_116 ?_
      refine x_goto dX11_reckon_117 125 (by decide) ?_
      exact x_sub [] rfl (xX11_reckon_125 hG h)
    · replace h := h.2 c
      refine x_iload dX11_reckon_120 2 rfl ?_
      refine x_iload dX11_reckon_122 3 rfl ?_
      refine x_idiv dX11_reckon_124 h.1 ?_
      replace h := h.2
      exact x_sub [] rfl (xX11_reckon_125 hG h)
  · replace h := h.2 c
    refine x_aload_n dX11_reckon_131 rfl 0 rfl ?_
    refine x_iconst (v := (0 : Int32)) dX11_reckon_132 rfl ?_
    refine x_iload_n dX11_reckon_133 rfl 1 rfl ?_
    refine x_iconst (v := (5 : Int32)) dX11_reckon_134 rfl ?_
    refine x_icmp_ne dX11_reckon_135 146 (by decide) (fun c => ?_) (fun c => ?_)
    · replace h := h.1 c
      refine x_iload dX11_reckon_138 2 rfl ?_
      refine x_iload dX11_reckon_140 3 rfl ?_
      refine x_iadd dX11_reckon_142 ?_
      refine x_goto dX11_reckon_143 172 (by decide) ?_
      exact x_sub [] rfl (xX11_reckon_172 hG h)
    · replace h := h.2 c
      refine x_iload_n dX11_reckon_146 rfl 1 rfl ?_
      refine x_bipush (v := (6 : Int32)) dX11_reckon_147 rfl ?_
      refine x_icmp_ne dX11_reckon_149 160 (by decide) (fun c => ?_) (fun c => ?_)
      · replace h := h.1 c
        refine x_iload dX11_reckon_152 2 rfl ?_
        refine x_iload dX11_reckon_154 3 rfl ?_
        refine x_imul dX11_reckon_156 ?_
        refine x_goto dX11_reckon_157 172 (by decide) ?_
        exact x_sub [] rfl (xX11_reckon_172 hG h)
      · replace h := h.2 c
        refine x_iload dX11_reckon_160 2 rfl ?_
        refine x_iload dX11_reckon_162 3 rfl ?_
        refine x_icmp_ge dX11_reckon_164 171 (by decide) (fun c => ?_) (fun c => ?_)
        · replace h := h.1 c
          refine x_iconst (v := (1 : Int32)) dX11_reckon_167 rfl ?_
          refine x_goto dX11_reckon_168 172 (by decide) ?_
          exact x_sub [] rfl (xX11_reckon_172 hG h)
        · replace h := h.2 c
          refine x_iconst (v := (0 : Int32)) dX11_reckon_171 rfl ?_
          exact x_sub [] rfl (xX11_reckon_172 hG h)
def wX11_reckon (σ : Sg) (l1 : Int32) (l2 : Int32) (l3 : Int32) (l4 : Int32) (Q : Sg → Prop) : Prop :=
  (l2 = (9 : Int32) → (
    (l3 = (sI σ 0 39) → (
      (l3 = (1 : Int32) → (
        wX11_reckon_28 σ Q
      )) ∧ (¬ l3 = (1 : Int32) → (
        (l4 = (sI σ 0 40) → (
          wX11_reckon_28 σ Q
        )) ∧ (¬ l4 = (sI σ 0 40) → (
          wX11_reckon_32 σ Q
        ))
      ))
    )) ∧ (¬ l3 = (sI σ 0 39) → (
      wX11_reckon_32 σ Q
    ))
  )) ∧ (¬ l2 = (9 : Int32) → (
    wX11_isWhole σ l3 l1 (fun r2 σ1 =>
    (r2 = 0 → (
      Q σ1
    )) ∧ (¬ r2 = 0 → (
      wX11_isWhole σ1 (sI σ1 0 39) l1 (fun r4 σ3 =>
      (r4 = 0 → (
        Q σ3
      )) ∧ (¬ r4 = 0 → (
        (l2 = (7 : Int32) → (
          ((sI σ3 0 40) = 0 → (
            wX11_failBy σ3 (6 : Int32) l1 (fun σ5 =>
            Q σ5
            )
          )) ∧ (¬ (sI σ3 0 40) = 0 → (
            wX11_reckon_100 σ3 l2 l4 (sI σ3 0 40) Q
          ))
        )) ∧ (¬ l2 = (7 : Int32) → (
          wX11_reckon_100 σ3 l2 l4 (sI σ3 0 40) Q
        ))
      ))
      )
    ))
    )
  ))
set_option maxRecDepth 100000 in
set_option maxHeartbeats 4000000 in
theorem xX11_reckon {G : Gx} (hG : gLy G = LyM) {σ : Sg} {l1 : Int32} {l2 : Int32} {l3 : Int32} {l4 : Int32} {Q : Sg → Prop} (h : wX11_reckon σ l1 l2 l3 l4 Q) : X G mX11_reckon 4 0 [(0, .ref (gad G 0)), (1, .int l1), (2, .int l2), (3, .int l3), (4, .int l4)] [] σ (qv Q) := by
  unfold wX11_reckon at h
  refine x_iload_n dX11_reckon_0 rfl 2 rfl ?_
  refine x_bipush (v := (9 : Int32)) dX11_reckon_1 rfl ?_
  refine x_icmp_ne dX11_reckon_3 51 (by decide) (fun c => ?_) (fun c => ?_)
  · replace h := h.1 c
    refine x_iload_n dX11_reckon_6 rfl 3 rfl ?_
    refine x_aload_n dX11_reckon_7 rfl 0 rfl ?_
    refine x_getIv hG fg_X11_125 dX11_reckon_8 rfl ?_
    refine x_icmp_ne dX11_reckon_11 32 (by decide) (fun c => ?_) (fun c => ?_)
    · replace h := h.1 c
      refine x_iload_n dX11_reckon_14 rfl 3 rfl ?_
      refine x_iconst (v := (1 : Int32)) dX11_reckon_15 rfl ?_
      refine x_icmp_eq dX11_reckon_16 28 (by decide) (fun c => ?_) (fun c => ?_)
      · replace h := h.1 c
        exact x_sub [0] rfl (xX11_reckon_28 hG h)
      · replace h := h.2 c
        refine x_iload dX11_reckon_19 4 rfl ?_
        refine x_aload_n dX11_reckon_21 rfl 0 rfl ?_
        refine x_getIv hG fg_X11_128 dX11_reckon_22 rfl ?_
        refine x_icmp_ne dX11_reckon_25 32 (by decide) (fun c => ?_) (fun c => ?_)
        · replace h := h.1 c
          exact x_sub [0] rfl (xX11_reckon_28 hG h)
        · replace h := h.2 c
          exact x_sub [0] rfl (xX11_reckon_32 hG h)
    · replace h := h.2 c
      exact x_sub [0] rfl (xX11_reckon_32 hG h)
  · replace h := h.2 c
    refine x_aload_n dX11_reckon_51 rfl 0 rfl ?_
    refine x_iload_n dX11_reckon_52 rfl 3 rfl ?_
    refine x_iload_n dX11_reckon_53 rfl 1 rfl ?_
    refine x_callVi [_, _] hG mv_X11_isWhole lk_X11_218 rfl rfl rfl ⟨by decide, by decide⟩ rfl (Nat.le_of_ble_eq_true rfl) dX11_reckon_54 (ct_X11_isWhole hG h) (fun r2 σ1 h => ?_)
    refine x_if_eq dX11_reckon_57 72 (by decide) (fun c => ?_) (fun c => ?_)
    · replace h := h.1 c
      exact x_vret rfl dX11_reckon_72 ⟨rfl, h⟩
    · replace h := h.2 c
      refine x_aload_n dX11_reckon_60 rfl 0 rfl ?_
      refine x_aload_n dX11_reckon_61 rfl 0 rfl ?_
      refine x_getIv hG fg_X11_125 dX11_reckon_62 rfl ?_
      refine x_iload_n dX11_reckon_65 rfl 1 rfl ?_
      refine x_callVi [_, _] hG mv_X11_isWhole lk_X11_218 rfl rfl rfl ⟨by decide, by decide⟩ rfl (Nat.le_of_ble_eq_true rfl) dX11_reckon_66 (ct_X11_isWhole hG h) (fun r4 σ3 h => ?_)
      refine x_if_ne dX11_reckon_69 73 (by decide) (fun c => ?_) (fun c => ?_)
      · replace h := h.1 c
        exact x_vret rfl dX11_reckon_72 ⟨rfl, h⟩
      · replace h := h.2 c
        refine x_aload_n dX11_reckon_73 rfl 0 rfl ?_
        refine x_getIv hG fg_X11_128 dX11_reckon_74 rfl ?_
        refine x_istore dX11_reckon_77 (Nat.le_of_ble_eq_true rfl) (lv' := [(5, _), (0, _), (1, _), (2, _), (3, _), (4, _)]) rfl ?_
        refine x_iload_n dX11_reckon_79 rfl 3 rfl ?_
        refine x_bipush (v := (7 : Int32)) dX11_reckon_80 rfl ?_
        refine x_icmp_ne dX11_reckon_82 100 (by decide) (fun c => ?_) (fun c => ?_)
        · replace h := h.1 c
          refine x_iload dX11_reckon_85 0 rfl ?_
          refine x_if_ne dX11_reckon_87 100 (by decide) (fun c => ?_) (fun c => ?_)
          · replace h := h.1 c
            refine x_aload_n dX11_reckon_90 rfl 1 rfl ?_
            refine x_bipush (v := (6 : Int32)) dX11_reckon_91 rfl ?_
            refine x_iload_n dX11_reckon_93 rfl 2 rfl ?_
            refine x_callVv [_, _] hG mv_X11_failBy lk_X11_243 rfl rfl rfl ⟨by decide, by decide⟩ rfl (Nat.le_of_ble_eq_true rfl) dX11_reckon_94 (ct_X11_failBy hG h) (fun σ5 h => ?_)
            refine x_goto dX11_reckon_97 175 (by decide) ?_
            exact x_vret rfl dX11_reckon_175 ⟨rfl, h⟩
          · replace h := h.2 c
            exact x_sub [1, 3, 5, 0] rfl (xX11_reckon_100 hG h)
        · replace h := h.2 c
          exact x_sub [1, 3, 5, 0] rfl (xX11_reckon_100 hG h)
theorem ct_X11_reckon {G : Gx} (hG : gLy G = LyM) {σ : Sg} {l1 : Int32} {l2 : Int32} {l3 : Int32} {l4 : Int32} {Q : Sg → Prop} (h : wX11_reckon σ l1 l2 l3 l4 Q) : CT G mX11_reckon 4 [.ref (gad G 0), .int l1, .int l2, .int l3, .int l4] σ (qv Q) := ct_of rfl (Nat.le_of_ble_eq_true rfl) rfl (xX11_reckon hG h)
/-! X11_makeRow makeRow -/
def wX11_makeRow_111 (σ : Sg) (l4 : Int32) (s1 : Int32) (Q : Sg → Prop) : Prop :=
  wX11_value σ s1 l4 (fun σ1 =>
  Q σ1
  )
set_option maxRecDepth 100000 in
set_option maxHeartbeats 4000000 in
theorem xX11_makeRow_111 {G : Gx} (hG : gLy G = LyM) {σ : Sg} {l4 : Int32} {s1 : Int32} {Q : Sg → Prop} (h : wX11_makeRow_111 σ l4 s1 Q) : X G mX11_makeRow 4 111 [(4, .int l4)] [.int s1, .ref (gad G 0)] σ (qv Q) := by
  unfold wX11_makeRow_111 at h
  refine x_iload dX11_makeRow_111 0 rfl ?_
  refine x_callVv [_, _] hG mv_X11_value lk_X11_168 rfl rfl rfl ⟨by decide, by decide⟩ rfl (Nat.le_of_ble_eq_true rfl) dX11_makeRow_113 (ct_X11_value hG h) (fun σ1 h => ?_)
  exact x_vret rfl dX11_makeRow_116 ⟨rfl, h⟩
def wX11_makeRow_89 (σ : Sg) (l2 : Int32) (l4 : Int32) (Q : Sg → Prop) : Prop :=
  (l2 = (10 : Int32) → (
    wX11_makeRow_111 σ l4 (2 : Int32) Q
  )) ∧ (¬ l2 = (10 : Int32) → (
    (l2 = (11 : Int32) → (
      wX11_makeRow_111 σ l4 (3 : Int32) Q
    )) ∧ (¬ l2 = (11 : Int32) → (
      wX11_makeRow_111 σ l4 (4 : Int32) Q
    ))
  ))
set_option maxRecDepth 100000 in
set_option maxHeartbeats 4000000 in
theorem xX11_makeRow_89 {G : Gx} (hG : gLy G = LyM) {σ : Sg} {l2 : Int32} {l4 : Int32} {Q : Sg → Prop} (h : wX11_makeRow_89 σ l2 l4 Q) : X G mX11_makeRow 4 89 [(0, .ref (gad G 0)), (2, .int l2), (4, .int l4)] [] σ (qv Q) := by
  unfold wX11_makeRow_89 at h
  refine x_aload_n dX11_makeRow_89 rfl 0 rfl ?_
  refine x_iload_n dX11_makeRow_90 rfl 1 rfl ?_
  refine x_bipush (v := (10 : Int32)) dX11_makeRow_91 rfl ?_
  refine x_icmp_ne dX11_makeRow_93 100 (by decide) (fun c => ?_) (fun c => ?_)
  · replace h := h.1 c
    refine x_iconst (v := (2 : Int32)) dX11_makeRow_96 rfl ?_
    refine x_goto dX11_makeRow_97 111 (by decide) ?_
    exact x_sub [2] rfl (xX11_makeRow_111 hG h)
  · replace h := h.2 c
    refine x_iload_n dX11_makeRow_100 rfl 1 rfl ?_
    refine x_bipush (v := (11 : Int32)) dX11_makeRow_101 rfl ?_
    refine x_icmp_ne dX11_makeRow_103 110 (by decide) (fun c => ?_) (fun c => ?_)
    · replace h := h.1 c
      refine x_iconst (v := (3 : Int32)) dX11_makeRow_106 rfl ?_
      refine x_goto dX11_makeRow_107 111 (by decide) ?_
      exact x_sub [2] rfl (xX11_makeRow_111 hG h)
    · replace h := h.2 c
      refine x_iconst (v := (4 : Int32)) dX11_makeRow_110 rfl ?_
      exact x_sub [2] rfl (xX11_makeRow_111 hG h)
def wX11_makeRow_57 : Nat → Sg → Int32 → Int32 → Int32 → Int32 → (Sg → Prop) → Prop
  | 0 => fun _ _ _ _ _ _ => False
  | n + 1 => fun σ l2 l3 l4 l5 Q =>
  (l5 < l3 → (
    (l2 = (10 : Int32) → (
      vp_in (((16 : Int32) * l4) + l5) 3520 ∧
      let σ1 := wI σ 6 ((((16 : Int32) * l4) + l5)).toNatClampNeg (0 : Int32)
      wX11_makeRow_57 n σ1 l2 l3 l4 (l5 + (1 : Int32)) Q
    )) ∧ (¬ l2 = (10 : Int32) → (
      wX11_makeRow_89 σ l2 l4 Q
    ))
  )) ∧ (¬ l5 < l3 → (
    wX11_makeRow_89 σ l2 l4 Q
  ))
set_option maxRecDepth 100000 in
set_option maxHeartbeats 4000000 in
theorem xX11_makeRow_57 {G : Gx} (hG : gLy G = LyM) {Q : Sg → Prop} (n : Nat) : ∀ {σ : Sg} {l2 : Int32} {l3 : Int32} {l4 : Int32} {l5 : Int32}, wX11_makeRow_57 n σ l2 l3 l4 l5 Q → X G mX11_makeRow 4 57 [(0, .ref (gad G 0)), (2, .int l2), (3, .int l3), (4, .int l4), (5, .int l5)] [] σ (qv Q) := by
  induction n with
  | zero => intro σ l2 l3 l4 l5 h; exact False.elim h
  | succ n ih =>
  intro σ l2 l3 l4 l5 h
  unfold wX11_makeRow_57 at h
  refine x_iload dX11_makeRow_57 4 rfl ?_
  refine x_iload_n dX11_makeRow_59 rfl 2 rfl ?_
  refine x_icmp_ge dX11_makeRow_60 89 (by decide) (fun c => ?_) (fun c => ?_)
  · replace h := h.1 c
    refine x_iload_n dX11_makeRow_63 rfl 1 rfl ?_
    refine x_bipush (v := (10 : Int32)) dX11_makeRow_64 rfl ?_
    refine x_icmp_ne dX11_makeRow_66 89 (by decide) (fun c => ?_) (fun c => ?_)
    · replace h := h.1 c
      refine x_aload_n dX11_makeRow_69 rfl 0 rfl ?_
      refine x_getR (q := 6) hG fg_X11_25 dX11_makeRow_70 ?_
      refine x_bipush (v := (16 : Int32)) dX11_makeRow_73 rfl ?_
      refine x_iload dX11_makeRow_75 3 rfl ?_
      refine x_imul dX11_makeRow_77 ?_
      refine x_iload dX11_makeRow_78 4 rfl ?_
      refine x_iadd dX11_makeRow_80 ?_
      refine x_iconst (v := (0 : Int32)) dX11_makeRow_81 rfl ?_
      refine x_iast hG rfl dX11_makeRow_82 h.1 ?_
      replace h := h.2
      refine x_iinc dX11_makeRow_83 4 rfl (v := _ + (1 : Int32)) rfl (Nat.le_of_ble_eq_true rfl) (lv' := [(5, _), (0, _), (2, _), (3, _), (4, _)]) rfl ?_
      refine x_goto dX11_makeRow_86 57 (by decide) ?_
      exact x_sub [1, 2, 3, 4, 0] rfl (ih h)
    · replace h := h.2 c
      exact x_sub [0, 1, 3] rfl (xX11_makeRow_89 hG h)
  · replace h := h.2 c
    exact x_sub [0, 1, 3] rfl (xX11_makeRow_89 hG h)
def wX11_makeRow (σ : Sg) (l1 : Int32) (l2 : Int32) (Q : Sg → Prop) : Prop :=
  wX11_isWhole σ (sI σ 0 39) l1 (fun r2 σ1 =>
  (r2 = 0 → (
    Q σ1
  )) ∧ (¬ r2 = 0 → (
    ((sI σ1 0 40) < 0 → (
      wX11_failBy σ1 (3 : Int32) l1 (fun σ3 =>
      Q σ3
      )
    )) ∧ (¬ (sI σ1 0 40) < 0 → (
      ((16 : Int32) < (sI σ1 0 40) → (
        wX11_finish σ1 (12 : Int32) l1 (fun σ4 =>
        Q σ4
        )
      )) ∧ (¬ (16 : Int32) < (sI σ1 0 40) → (
        wX11_newThing σ1 (sI σ1 0 40) (fun r6 σ5 =>
        ∃ n, wX11_makeRow_57 n σ5 l2 (sI σ1 0 40) r6 (0 : Int32) Q
        )
      ))
    ))
  ))
  )
set_option maxRecDepth 100000 in
set_option maxHeartbeats 4000000 in
theorem xX11_makeRow {G : Gx} (hG : gLy G = LyM) {σ : Sg} {l1 : Int32} {l2 : Int32} {Q : Sg → Prop} (h : wX11_makeRow σ l1 l2 Q) : X G mX11_makeRow 4 0 [(0, .ref (gad G 0)), (1, .int l1), (2, .int l2)] [] σ (qv Q) := by
  unfold wX11_makeRow at h
  refine x_aload_n dX11_makeRow_0 rfl 0 rfl ?_
  refine x_aload_n dX11_makeRow_1 rfl 0 rfl ?_
  refine x_getIv hG fg_X11_125 dX11_makeRow_2 rfl ?_
  refine x_iload_n dX11_makeRow_5 rfl 1 rfl ?_
  refine x_callVi [_, _] hG mv_X11_isWhole lk_X11_218 rfl rfl rfl ⟨by decide, by decide⟩ rfl (Nat.le_of_ble_eq_true rfl) dX11_makeRow_6 (ct_X11_isWhole hG h) (fun r2 σ1 h => ?_)
  refine x_if_ne dX11_makeRow_9 13 (by decide) (fun c => ?_) (fun c => ?_)
  · replace h := h.1 c
    exact x_vret rfl dX11_makeRow_12 ⟨rfl, h⟩
  · replace h := h.2 c
    refine x_aload_n dX11_makeRow_13 rfl 0 rfl ?_
    refine x_getIv hG fg_X11_128 dX11_makeRow_14 rfl ?_
    refine x_istore_n dX11_makeRow_17 rfl (Nat.le_of_ble_eq_true rfl) (lv' := [(3, _), (0, _), (1, _), (2, _)]) rfl ?_
    refine x_iload_n dX11_makeRow_18 rfl 0 rfl ?_
    refine x_if_ge dX11_makeRow_19 31 (by decide) (fun c => ?_) (fun c => ?_)
    · replace h := h.1 c
      refine x_aload_n dX11_makeRow_22 rfl 1 rfl ?_
      refine x_iconst (v := (3 : Int32)) dX11_makeRow_23 rfl ?_
      refine x_iload_n dX11_makeRow_24 rfl 2 rfl ?_
      refine x_callVv [_, _] hG mv_X11_failBy lk_X11_243 rfl rfl rfl ⟨by decide, by decide⟩ rfl (Nat.le_of_ble_eq_true rfl) dX11_makeRow_25 (ct_X11_failBy hG h) (fun σ3 h => ?_)
      refine x_goto dX11_makeRow_28 116 (by decide) ?_
      exact x_vret rfl dX11_makeRow_116 ⟨rfl, h⟩
    · replace h := h.2 c
      refine x_iload_n dX11_makeRow_31 rfl 0 rfl ?_
      refine x_bipush (v := (16 : Int32)) dX11_makeRow_32 rfl ?_
      refine x_icmp_le dX11_makeRow_34 47 (by decide) (fun c => ?_) (fun c => ?_)
      · replace h := h.1 c
        refine x_aload_n dX11_makeRow_37 rfl 1 rfl ?_
        refine x_bipush (v := (12 : Int32)) dX11_makeRow_38 rfl ?_
        refine x_iload_n dX11_makeRow_40 rfl 2 rfl ?_
        refine x_callVv [_, _] hG mv_X11_finish lk_X11_149 rfl rfl rfl ⟨by decide, by decide⟩ rfl (Nat.le_of_ble_eq_true rfl) dX11_makeRow_41 (ct_X11_finish hG h) (fun σ4 h => ?_)
        refine x_goto dX11_makeRow_44 116 (by decide) ?_
        exact x_vret rfl dX11_makeRow_116 ⟨rfl, h⟩
      · replace h := h.2 c
        refine x_aload_n dX11_makeRow_47 rfl 1 rfl ?_
        refine x_iload_n dX11_makeRow_48 rfl 0 rfl ?_
        refine x_callVi [_] hG mv_X11_newThing lk_X11_171 rfl rfl rfl ⟨by decide, by decide⟩ rfl (Nat.le_of_ble_eq_true rfl) dX11_makeRow_49 (ct_X11_newThing hG h) (fun r6 σ5 h => ?_)
        refine x_istore dX11_makeRow_52 (Nat.le_of_ble_eq_true rfl) (lv' := [(4, _), (3, _), (0, _), (1, _), (2, _)]) rfl ?_
        refine x_iconst (v := (0 : Int32)) dX11_makeRow_54 rfl ?_
        refine x_istore dX11_makeRow_55 (Nat.le_of_ble_eq_true rfl) (lv' := [(5, _), (4, _), (3, _), (0, _), (1, _), (2, _)]) rfl ?_
        obtain ⟨n, h⟩ := h
        exact x_sub [3, 5, 2, 1, 0] rfl (xX11_makeRow_57 hG n h)
theorem ct_X11_makeRow {G : Gx} (hG : gLy G = LyM) {σ : Sg} {l1 : Int32} {l2 : Int32} {Q : Sg → Prop} (h : wX11_makeRow σ l1 l2 Q) : CT G mX11_makeRow 4 [.ref (gad G 0), .int l1, .int l2] σ (qv Q) := ct_of rfl (Nat.le_of_ble_eq_true rfl) rfl (xX11_makeRow hG h)
/-! X11_readPlace readPlace -/
def wX11_readPlace (σ : Sg) (l1 : Int32) (l2 : Int32) (l3 : Int32) (Q : Sg → Prop) : Prop :=
  wX11_isWhole σ (sI σ 0 39) l1 (fun r2 σ1 =>
  (r2 = 0 → (
    Q σ1
  )) ∧ (¬ r2 = 0 → (
    wX11_isRowHere σ1 l2 l1 (fun r4 σ3 =>
    (r4 = 0 → (
      Q σ3
    )) ∧ (¬ r4 = 0 → (
      vp_in l3 220 ∧
      wX11_in σ3 (sI σ3 0 40) (0 : Int32) ((sI σ3 5 (l3).toNatClampNeg) - (1 : Int32)) (fun r6 σ5 =>
      (r6 = 0 → (
        wX11_failBy σ5 (2 : Int32) l1 (fun σ7 =>
        Q σ7
        )
      )) ∧ (¬ r6 = 0 → (
        vp_in (((16 : Int32) * l3) + (sI σ5 0 40)) 3520 ∧
        vp_in (((16 : Int32) * l3) + (sI σ5 0 40)) 3520 ∧
        wX11_value σ5 (sI σ5 6 ((((16 : Int32) * l3) + (sI σ5 0 40))).toNatClampNeg) (sI σ5 7 ((((16 : Int32) * l3) + (sI σ5 0 40))).toNatClampNeg) (fun σ8 =>
        Q σ8
        )
      ))
      )
    ))
    )
  ))
  )
set_option maxRecDepth 100000 in
set_option maxHeartbeats 4000000 in
theorem xX11_readPlace {G : Gx} (hG : gLy G = LyM) {σ : Sg} {l1 : Int32} {l2 : Int32} {l3 : Int32} {Q : Sg → Prop} (h : wX11_readPlace σ l1 l2 l3 Q) : X G mX11_readPlace 5 0 [(0, .ref (gad G 0)), (1, .int l1), (2, .int l2), (3, .int l3)] [] σ (qv Q) := by
  unfold wX11_readPlace at h
  refine x_aload_n dX11_readPlace_0 rfl 0 rfl ?_
  refine x_aload_n dX11_readPlace_1 rfl 0 rfl ?_
  refine x_getIv hG fg_X11_125 dX11_readPlace_2 rfl ?_
  refine x_iload_n dX11_readPlace_5 rfl 1 rfl ?_
  refine x_callVi [_, _] hG mv_X11_isWhole lk_X11_218 rfl rfl rfl ⟨by decide, by decide⟩ rfl (Nat.le_of_ble_eq_true rfl) dX11_readPlace_6 (ct_X11_isWhole hG h) (fun r2 σ1 h => ?_)
  refine x_if_eq dX11_readPlace_9 21 (by decide) (fun c => ?_) (fun c => ?_)
  · replace h := h.1 c
    exact x_vret rfl dX11_readPlace_21 ⟨rfl, h⟩
  · replace h := h.2 c
    refine x_aload_n dX11_readPlace_12 rfl 0 rfl ?_
    refine x_iload_n dX11_readPlace_13 rfl 2 rfl ?_
    refine x_iload_n dX11_readPlace_14 rfl 1 rfl ?_
    refine x_callVi [_, _] hG mv_X11_isRowHere lk_X11_249 rfl rfl rfl ⟨by decide, by decide⟩ rfl (Nat.le_of_ble_eq_true rfl) dX11_readPlace_15 (ct_X11_isRowHere hG h) (fun r4 σ3 h => ?_)
    refine x_if_ne dX11_readPlace_18 22 (by decide) (fun c => ?_) (fun c => ?_)
    · replace h := h.1 c
      exact x_vret rfl dX11_readPlace_21 ⟨rfl, h⟩
    · replace h := h.2 c
      refine x_aload_n dX11_readPlace_22 rfl 0 rfl ?_
      refine x_getIv hG fg_X11_128 dX11_readPlace_23 rfl ?_
      refine x_iconst (v := (0 : Int32)) dX11_readPlace_26 rfl ?_
      refine x_aload_n dX11_readPlace_27 rfl 0 rfl ?_
      refine x_getR (q := 5) hG fg_X11_22 dX11_readPlace_28 ?_
      refine x_iload_n dX11_readPlace_31 rfl 3 rfl ?_
      refine x_ialdv hG rfl dX11_readPlace_32 h.1 rfl ?_
      replace h := h.2
      refine x_iconst (v := (1 : Int32)) dX11_readPlace_33 rfl ?_
      refine x_isub dX11_readPlace_34 ?_
      refine x_callSi [_, _, _] ms_X11_in lk_X11_107 rfl ⟨by decide, by decide⟩ rfl (Nat.le_of_ble_eq_true rfl) dX11_readPlace_35 (ct_X11_in hG h) (fun r6 σ5 h => ?_)
      refine x_if_ne dX11_readPlace_38 50 (by decide) (fun c => ?_) (fun c => ?_)
      · replace h := h.1 c
        refine x_aload_n dX11_readPlace_41 rfl 0 rfl ?_
        refine x_iconst (v := (2 : Int32)) dX11_readPlace_42 rfl ?_
        refine x_iload_n dX11_readPlace_43 rfl 1 rfl ?_
        refine x_callVv [_, _] hG mv_X11_failBy lk_X11_243 rfl rfl rfl ⟨by decide, by decide⟩ rfl (Nat.le_of_ble_eq_true rfl) dX11_readPlace_44 (ct_X11_failBy hG h) (fun σ7 h => ?_)
        refine x_goto dX11_readPlace_47 79 (by decide) ?_
        exact x_vret rfl dX11_readPlace_79 ⟨rfl, h⟩
      · replace h := h.2 c
        refine x_bipush (v := (16 : Int32)) dX11_readPlace_50 rfl ?_
        refine x_iload_n dX11_readPlace_52 rfl 3 rfl ?_
        refine x_imul dX11_readPlace_53 ?_
        refine x_aload_n dX11_readPlace_54 rfl 0 rfl ?_
        refine x_getIv hG fg_X11_128 dX11_readPlace_55 rfl ?_
        refine x_iadd dX11_readPlace_58 ?_
        refine x_istore dX11_readPlace_59 (Nat.le_of_ble_eq_true rfl) (lv' := [(4, _), (0, _), (1, _), (2, _), (3, _)]) rfl ?_
        refine x_aload_n dX11_readPlace_61 rfl 1 rfl ?_
        refine x_aload_n dX11_readPlace_62 rfl 1 rfl ?_
        refine x_getR (q := 6) hG fg_X11_25 dX11_readPlace_63 ?_
        refine x_iload dX11_readPlace_66 0 rfl ?_
        refine x_ialdv hG rfl dX11_readPlace_68 h.1 rfl ?_
        replace h := h.2
        refine x_aload_n dX11_readPlace_69 rfl 1 rfl ?_
        refine x_getR (q := 7) hG fg_X11_28 dX11_readPlace_70 ?_
        refine x_iload dX11_readPlace_73 0 rfl ?_
        refine x_ialdv hG rfl dX11_readPlace_75 h.1 rfl ?_
        replace h := h.2
        refine x_callVv [_, _] hG mv_X11_value lk_X11_168 rfl rfl rfl ⟨by decide, by decide⟩ rfl (Nat.le_of_ble_eq_true rfl) dX11_readPlace_76 (ct_X11_value hG h) (fun σ8 h => ?_)
        exact x_vret rfl dX11_readPlace_79 ⟨rfl, h⟩
theorem ct_X11_readPlace {G : Gx} (hG : gLy G = LyM) {σ : Sg} {l1 : Int32} {l2 : Int32} {l3 : Int32} {Q : Sg → Prop} (h : wX11_readPlace σ l1 l2 l3 Q) : CT G mX11_readPlace 5 [.ref (gad G 0), .int l1, .int l2, .int l3] σ (qv Q) := ct_of rfl (Nat.le_of_ble_eq_true rfl) rfl (xX11_readPlace hG h)
/-! X11_writePlace writePlace -/
def wX11_writePlace_164 (σ : Sg) (l2 : Int32) (l5 : Int32) (Q : Sg → Prop) : Prop :=
  vp_in l2 220 ∧
  wX11_write σ (((8 : Int32) + ((16 : Int32) * l5)) + (sI σ 27 (l2).toNatClampNeg)) (sI σ 0 39) (sI σ 0 40) (fun σ1 =>
  Q σ1
  )
set_option maxRecDepth 100000 in
set_option maxHeartbeats 4000000 in
theorem xX11_writePlace_164 {G : Gx} (hG : gLy G = LyM) {σ : Sg} {l2 : Int32} {l5 : Int32} {Q : Sg → Prop} (h : wX11_writePlace_164 σ l2 l5 Q) : X G mX11_writePlace 5 164 [(0, .ref (gad G 0)), (2, .int l2), (5, .int l5)] [] σ (qv Q) := by
  unfold wX11_writePlace_164 at h
  refine x_aload_n dX11_writePlace_164 rfl 0 rfl ?_
  refine x_bipush (v := (8 : Int32)) dX11_writePlace_165 rfl ?_
  refine x_bipush (v := (16 : Int32)) dX11_writePlace_167 rfl ?_
  refine x_iload dX11_writePlace_169 2 rfl ?_
  refine x_imul dX11_writePlace_171 ?_
  refine x_iadd dX11_writePlace_172 ?_
  refine x_aload_n dX11_writePlace_173 rfl 0 rfl ?_
  refine x_getR (q := 27) hG fg_X11_88 dX11_writePlace_174 ?_
  refine x_iload_n dX11_writePlace_177 rfl 1 rfl ?_
  refine x_ialdv hG rfl dX11_writePlace_178 h.1 rfl ?_
  replace h := h.2
  refine x_iadd dX11_writePlace_179 ?_
  refine x_aload_n dX11_writePlace_180 rfl 0 rfl ?_
  refine x_getIv hG fg_X11_125 dX11_writePlace_181 rfl ?_
  refine x_aload_n dX11_writePlace_184 rfl 0 rfl ?_
  refine x_getIv hG fg_X11_128 dX11_writePlace_185 rfl ?_
  refine x_callVv [_, _, _] hG mv_X11_write lk_X11_212 rfl rfl rfl ⟨by decide, by decide⟩ rfl (Nat.le_of_ble_eq_true rfl) dX11_writePlace_188 (ct_X11_write hG h) (fun σ1 h => ?_)
  exact x_vret rfl dX11_writePlace_191 ⟨rfl, h⟩
def wX11_writePlace_93 (σ : Sg) (l1 : Int32) (l2 : Int32) (l3 : Int32) (Q : Sg → Prop) : Prop :=
  wX11_isRowHere σ l3 l1 (fun r2 σ1 =>
  (r2 = 0 → (
    Q σ1
  )) ∧ (¬ r2 = 0 → (
    vp_in l2 220 ∧
    vp_in l2 220 ∧
    vp_in (sI σ1 25 (l2).toNatClampNeg) 220 ∧
    wX11_in σ1 (sI σ1 27 (l2).toNatClampNeg) (0 : Int32) ((sI σ1 5 ((sI σ1 25 (l2).toNatClampNeg)).toNatClampNeg) - (1 : Int32)) (fun r4 σ3 =>
    (r4 = 0 → (
      wX11_failBy σ3 (2 : Int32) l1 (fun σ5 =>
      Q σ5
      )
    )) ∧ (¬ r4 = 0 → (
      (l3 = (4 : Int32) → (
        ((sI σ3 0 39) = (5 : Int32) → (
          wX11_failBy σ3 (5 : Int32) l1 (fun σ6 =>
          Q σ6
          )
        )) ∧ (¬ (sI σ3 0 39) = (5 : Int32) → (
          wX11_writePlace_164 σ3 l2 (sI σ1 25 (l2).toNatClampNeg) Q
        ))
      )) ∧ (¬ l3 = (4 : Int32) → (
        wX11_writePlace_164 σ3 l2 (sI σ1 25 (l2).toNatClampNeg) Q
      ))
    ))
    )
  ))
  )
set_option maxRecDepth 100000 in
set_option maxHeartbeats 4000000 in
theorem xX11_writePlace_93 {G : Gx} (hG : gLy G = LyM) {σ : Sg} {l1 : Int32} {l2 : Int32} {l3 : Int32} {Q : Sg → Prop} (h : wX11_writePlace_93 σ l1 l2 l3 Q) : X G mX11_writePlace 5 93 [(0, .ref (gad G 0)), (1, .int l1), (2, .int l2), (3, .int l3)] [] σ (qv Q) := by
  unfold wX11_writePlace_93 at h
  refine x_aload_n dX11_writePlace_93 rfl 0 rfl ?_
  refine x_iload_n dX11_writePlace_94 rfl 3 rfl ?_
  refine x_iload_n dX11_writePlace_95 rfl 1 rfl ?_
  refine x_callVi [_, _] hG mv_X11_isRowHere lk_X11_249 rfl rfl rfl ⟨by decide, by decide⟩ rfl (Nat.le_of_ble_eq_true rfl) dX11_writePlace_96 (ct_X11_isRowHere hG h) (fun r2 σ1 h => ?_)
  refine x_if_ne dX11_writePlace_99 103 (by decide) (fun c => ?_) (fun c => ?_)
  · replace h := h.1 c
    exact x_vret rfl dX11_writePlace_102 ⟨rfl, h⟩
  · replace h := h.2 c
    refine x_aload_n dX11_writePlace_103 rfl 0 rfl ?_
    refine x_getR (q := 25) hG fg_X11_82 dX11_writePlace_104 ?_
    refine x_iload_n dX11_writePlace_107 rfl 2 rfl ?_
    refine x_ialdv hG rfl dX11_writePlace_108 h.1 rfl ?_
    replace h := h.2
    refine x_istore dX11_writePlace_109 (Nat.le_of_ble_eq_true rfl) (lv' := [(5, _), (0, _), (1, _), (2, _), (3, _)]) rfl ?_
    refine x_aload_n dX11_writePlace_111 rfl 1 rfl ?_
    refine x_getR (q := 27) hG fg_X11_88 dX11_writePlace_112 ?_
    refine x_iload_n dX11_writePlace_115 rfl 3 rfl ?_
    refine x_ialdv hG rfl dX11_writePlace_116 h.1 rfl ?_
    replace h := h.2
    refine x_iconst (v := (0 : Int32)) dX11_writePlace_117 rfl ?_
    refine x_aload_n dX11_writePlace_118 rfl 1 rfl ?_
    refine x_getR (q := 5) hG fg_X11_22 dX11_writePlace_119 ?_
    refine x_iload dX11_writePlace_122 0 rfl ?_
    refine x_ialdv hG rfl dX11_writePlace_124 h.1 rfl ?_
    replace h := h.2
    refine x_iconst (v := (1 : Int32)) dX11_writePlace_125 rfl ?_
    refine x_isub dX11_writePlace_126 ?_
    refine x_callSi [_, _, _] ms_X11_in lk_X11_107 rfl ⟨by decide, by decide⟩ rfl (Nat.le_of_ble_eq_true rfl) dX11_writePlace_127 (ct_X11_in hG h) (fun r4 σ3 h => ?_)
    refine x_if_ne dX11_writePlace_130 142 (by decide) (fun c => ?_) (fun c => ?_)
    · replace h := h.1 c
      refine x_aload_n dX11_writePlace_133 rfl 1 rfl ?_
      refine x_iconst (v := (2 : Int32)) dX11_writePlace_134 rfl ?_
      refine x_iload_n dX11_writePlace_135 rfl 2 rfl ?_
      refine x_callVv [_, _] hG mv_X11_failBy lk_X11_243 rfl rfl rfl ⟨by decide, by decide⟩ rfl (Nat.le_of_ble_eq_true rfl) dX11_writePlace_136 (ct_X11_failBy hG h) (fun σ5 h => ?_)
      refine x_goto dX11_writePlace_139 191 (by decide) ?_
      exact x_vret rfl dX11_writePlace_191 ⟨rfl, h⟩
    · replace h := h.2 c
      refine x_iload_n dX11_writePlace_142 rfl 4 rfl ?_
      refine x_iconst (v := (4 : Int32)) dX11_writePlace_143 rfl ?_
      refine x_icmp_ne dX11_writePlace_144 164 (by decide) (fun c => ?_) (fun c => ?_)
      · replace h := h.1 c
        refine x_aload_n dX11_writePlace_147 rfl 1 rfl ?_
        refine x_getIv hG fg_X11_125 dX11_writePlace_148 rfl ?_
        refine x_iconst (v := (5 : Int32)) dX11_writePlace_151 rfl ?_
        refine x_icmp_ne dX11_writePlace_152 164 (by decide) (fun c => ?_) (fun c => ?_)
        · replace h := h.1 c
          refine x_aload_n dX11_writePlace_155 rfl 1 rfl ?_
          refine x_iconst (v := (5 : Int32)) dX11_writePlace_156 rfl ?_
          refine x_iload_n dX11_writePlace_157 rfl 2 rfl ?_
          refine x_callVv [_, _] hG mv_X11_failBy lk_X11_243 rfl rfl rfl ⟨by decide, by decide⟩ rfl (Nat.le_of_ble_eq_true rfl) dX11_writePlace_158 (ct_X11_failBy hG h) (fun σ6 h => ?_)
          refine x_goto dX11_writePlace_161 191 (by decide) ?_
          exact x_vret rfl dX11_writePlace_191 ⟨rfl, h⟩
        · replace h := h.2 c
          exact x_sub [1, 3, 0] rfl (xX11_writePlace_164 hG h)
      · replace h := h.2 c
        exact x_sub [1, 3, 0] rfl (xX11_writePlace_164 hG h)
def wX11_writePlace_76 (σ : Sg) (l1 : Int32) (l2 : Int32) (l3 : Int32) (l4 : Int32) (Q : Sg → Prop) : Prop :=
  (l4 = 0 → (
    wX11_isWhole σ (sI σ 0 39) l1 (fun r2 σ1 =>
    (r2 = 0 → (
      Q σ1
    )) ∧ (¬ r2 = 0 → (
      wX11_writePlace_93 σ1 l1 l2 l3 Q
    ))
    )
  )) ∧ (¬ l4 = 0 → (
    wX11_writePlace_93 σ l1 l2 l3 Q
  ))
set_option maxRecDepth 100000 in
set_option maxHeartbeats 4000000 in
theorem xX11_writePlace_76 {G : Gx} (hG : gLy G = LyM) {σ : Sg} {l1 : Int32} {l2 : Int32} {l3 : Int32} {l4 : Int32} {Q : Sg → Prop} (h : wX11_writePlace_76 σ l1 l2 l3 l4 Q) : X G mX11_writePlace 5 76 [(0, .ref (gad G 0)), (1, .int l1), (2, .int l2), (3, .int l3), (4, .int l4)] [] σ (qv Q) := by
  unfold wX11_writePlace_76 at h
  refine x_iload dX11_writePlace_76 4 rfl ?_
  refine x_if_ne dX11_writePlace_78 93 (by decide) (fun c => ?_) (fun c => ?_)
  · replace h := h.1 c
    refine x_aload_n dX11_writePlace_81 rfl 0 rfl ?_
    refine x_aload_n dX11_writePlace_82 rfl 0 rfl ?_
    refine x_getIv hG fg_X11_125 dX11_writePlace_83 rfl ?_
    refine x_iload_n dX11_writePlace_86 rfl 1 rfl ?_
    refine x_callVi [_, _] hG mv_X11_isWhole lk_X11_218 rfl rfl rfl ⟨by decide, by decide⟩ rfl (Nat.le_of_ble_eq_true rfl) dX11_writePlace_87 (ct_X11_isWhole hG h) (fun r2 σ1 h => ?_)
    refine x_if_eq dX11_writePlace_90 102 (by decide) (fun c => ?_) (fun c => ?_)
    · replace h := h.1 c
      exact x_vret rfl dX11_writePlace_102 ⟨rfl, h⟩
    · replace h := h.2 c
      exact x_sub [0, 1, 2, 3] rfl (xX11_writePlace_93 hG h)
  · replace h := h.2 c
    exact x_sub [0, 1, 2, 3] rfl (xX11_writePlace_93 hG h)
def wX11_writePlace_22 (σ : Sg) (l1 : Int32) (l2 : Int32) (l3 : Int32) (s0 : Int32) (Q : Sg → Prop) : Prop :=
  vp_in l2 220 ∧
  wX11_isWhole σ (sI σ 26 (l2).toNatClampNeg) l1 (fun r2 σ1 =>
  (r2 = 0 → (
    Q σ1
  )) ∧ (¬ r2 = 0 → (
    (s0 = 0 → (
      wX11_writePlace_76 σ1 l1 l2 l3 s0 Q
    )) ∧ (¬ s0 = 0 → (
      ((sI σ1 0 39) = (1 : Int32) → (
        wX11_writePlace_76 σ1 l1 l2 l3 s0 Q
      )) ∧ (¬ (sI σ1 0 39) = (1 : Int32) → (
        ((sI σ1 0 39) = (5 : Int32) → (
          wX11_writePlace_76 σ1 l1 l2 l3 s0 Q
        )) ∧ (¬ (sI σ1 0 39) = (5 : Int32) → (
          ((sI σ1 0 39) = (6 : Int32) → (
            wX11_writePlace_76 σ1 l1 l2 l3 s0 Q
          )) ∧ (¬ (sI σ1 0 39) = (6 : Int32) → (
            wX11_failBy σ1 (4 : Int32) l1 (fun σ3 =>
            Q σ3
            )
          ))
        ))
      ))
    ))
  ))
  )
set_option maxRecDepth 100000 in
set_option maxHeartbeats 4000000 in
theorem xX11_writePlace_22 {G : Gx} (hG : gLy G = LyM) {σ : Sg} {l1 : Int32} {l2 : Int32} {l3 : Int32} {s0 : Int32} {Q : Sg → Prop} (h : wX11_writePlace_22 σ l1 l2 l3 s0 Q) : X G mX11_writePlace 5 22 [(0, .ref (gad G 0)), (1, .int l1), (2, .int l2), (3, .int l3)] [.int s0] σ (qv Q) := by
  unfold wX11_writePlace_22 at h
  refine x_istore dX11_writePlace_22 (Nat.le_of_ble_eq_true rfl) (lv' := [(4, _), (0, _), (1, _), (2, _), (3, _)]) rfl ?_
  refine x_aload_n dX11_writePlace_24 rfl 1 rfl ?_
  refine x_aload_n dX11_writePlace_25 rfl 1 rfl ?_
  refine x_getR (q := 26) hG fg_X11_85 dX11_writePlace_26 ?_
  refine x_iload_n dX11_writePlace_29 rfl 3 rfl ?_
  refine x_ialdv hG rfl dX11_writePlace_30 h.1 rfl ?_
  replace h := h.2
  refine x_iload_n dX11_writePlace_31 rfl 2 rfl ?_
  refine x_callVi [_, _] hG mv_X11_isWhole lk_X11_218 rfl rfl rfl ⟨by decide, by decide⟩ rfl (Nat.le_of_ble_eq_true rfl) dX11_writePlace_32 (ct_X11_isWhole hG h) (fun r2 σ1 h => ?_)
  refine x_if_ne dX11_writePlace_35 39 (by decide) (fun c => ?_) (fun c => ?_)
  · replace h := h.1 c
    exact x_vret rfl dX11_writePlace_38 ⟨rfl, h⟩
  · replace h := h.2 c
    refine x_iload dX11_writePlace_39 0 rfl ?_
    refine x_if_eq dX11_writePlace_41 76 (by decide) (fun c => ?_) (fun c => ?_)
    · replace h := h.1 c
      exact x_sub [1, 2, 3, 4, 0] rfl (xX11_writePlace_76 hG h)
    · replace h := h.2 c
      refine x_aload_n dX11_writePlace_44 rfl 1 rfl ?_
      refine x_getIv hG fg_X11_125 dX11_writePlace_45 rfl ?_
      refine x_iconst (v := (1 : Int32)) dX11_writePlace_48 rfl ?_
      refine x_icmp_eq dX11_writePlace_49 76 (by decide) (fun c => ?_) (fun c => ?_)
      · replace h := h.1 c
        exact x_sub [1, 2, 3, 4, 0] rfl (xX11_writePlace_76 hG h)
      · replace h := h.2 c
        refine x_aload_n dX11_writePlace_52 rfl 1 rfl ?_
        refine x_getIv hG fg_X11_125 dX11_writePlace_53 rfl ?_
        refine x_iconst (v := (5 : Int32)) dX11_writePlace_56 rfl ?_
        refine x_icmp_eq dX11_writePlace_57 76 (by decide) (fun c => ?_) (fun c => ?_)
        · replace h := h.1 c
          exact x_sub [1, 2, 3, 4, 0] rfl (xX11_writePlace_76 hG h)
        · replace h := h.2 c
          refine x_aload_n dX11_writePlace_60 rfl 1 rfl ?_
          refine x_getIv hG fg_X11_125 dX11_writePlace_61 rfl ?_
          refine x_bipush (v := (6 : Int32)) dX11_writePlace_64 rfl ?_
          refine x_icmp_eq dX11_writePlace_66 76 (by decide) (fun c => ?_) (fun c => ?_)
          · replace h := h.1 c
            exact x_sub [1, 2, 3, 4, 0] rfl (xX11_writePlace_76 hG h)
          · replace h := h.2 c
            refine x_aload_n dX11_writePlace_69 rfl 1 rfl ?_
            refine x_iconst (v := (4 : Int32)) dX11_writePlace_70 rfl ?_
            refine x_iload_n dX11_writePlace_71 rfl 2 rfl ?_
            refine x_callVv [_, _] hG mv_X11_failBy lk_X11_243 rfl rfl rfl ⟨by decide, by decide⟩ rfl (Nat.le_of_ble_eq_true rfl) dX11_writePlace_72 (ct_X11_failBy hG h) (fun σ3 h => ?_)
            exact x_vret rfl dX11_writePlace_75 ⟨rfl, h⟩
def wX11_writePlace_17 (σ : Sg) (l1 : Int32) (l2 : Int32) (l3 : Int32) (Q : Sg → Prop) : Prop :=
  wX11_writePlace_22 σ l1 l2 l3 (1 : Int32) Q
set_option maxRecDepth 100000 in
set_option maxHeartbeats 4000000 in
theorem xX11_writePlace_17 {G : Gx} (hG : gLy G = LyM) {σ : Sg} {l1 : Int32} {l2 : Int32} {l3 : Int32} {Q : Sg → Prop} (h : wX11_writePlace_17 σ l1 l2 l3 Q) : X G mX11_writePlace 5 17 [(0, .ref (gad G 0)), (1, .int l1), (2, .int l2), (3, .int l3)] [] σ (qv Q) := by
  unfold wX11_writePlace_17 at h
  refine x_iconst (v := (1 : Int32)) dX11_writePlace_17 rfl ?_
  refine x_goto dX11_writePlace_18 22 (by decide) ?_
  exact x_sub [0, 1, 2, 3] rfl (xX11_writePlace_22 hG h)
def wX11_writePlace (σ : Sg) (l1 : Int32) (l2 : Int32) (Q : Sg → Prop) : Prop :=
  vp_in l2 220 ∧
  ((sI σ 24 (l2).toNatClampNeg) = (3 : Int32) → (
    wX11_writePlace_17 σ l1 l2 (sI σ 24 (l2).toNatClampNeg) Q
  )) ∧ (¬ (sI σ 24 (l2).toNatClampNeg) = (3 : Int32) → (
    ((sI σ 24 (l2).toNatClampNeg) = (4 : Int32) → (
      wX11_writePlace_17 σ l1 l2 (sI σ 24 (l2).toNatClampNeg) Q
    )) ∧ (¬ (sI σ 24 (l2).toNatClampNeg) = (4 : Int32) → (
      wX11_writePlace_22 σ l1 l2 (sI σ 24 (l2).toNatClampNeg) (0 : Int32) Q
    ))
  ))
set_option maxRecDepth 100000 in
set_option maxHeartbeats 4000000 in
theorem xX11_writePlace {G : Gx} (hG : gLy G = LyM) {σ : Sg} {l1 : Int32} {l2 : Int32} {Q : Sg → Prop} (h : wX11_writePlace σ l1 l2 Q) : X G mX11_writePlace 5 0 [(0, .ref (gad G 0)), (1, .int l1), (2, .int l2)] [] σ (qv Q) := by
  unfold wX11_writePlace at h
  refine x_aload_n dX11_writePlace_0 rfl 0 rfl ?_
  refine x_getR (q := 24) hG fg_X11_79 dX11_writePlace_1 ?_
  refine x_iload_n dX11_writePlace_4 rfl 2 rfl ?_
  refine x_ialdv hG rfl dX11_writePlace_5 h.1 rfl ?_
  replace h := h.2
  refine x_istore_n dX11_writePlace_6 rfl (Nat.le_of_ble_eq_true rfl) (lv' := [(3, _), (0, _), (1, _), (2, _)]) rfl ?_
  refine x_iload_n dX11_writePlace_7 rfl 0 rfl ?_
  refine x_iconst (v := (3 : Int32)) dX11_writePlace_8 rfl ?_
  refine x_icmp_eq dX11_writePlace_9 17 (by decide) (fun c => ?_) (fun c => ?_)
  · replace h := h.1 c
    exact x_sub [1, 2, 3, 0] rfl (xX11_writePlace_17 hG h)
  · replace h := h.2 c
    refine x_iload_n dX11_writePlace_12 rfl 0 rfl ?_
    refine x_iconst (v := (4 : Int32)) dX11_writePlace_13 rfl ?_
    refine x_icmp_ne dX11_writePlace_14 21 (by decide) (fun c => ?_) (fun c => ?_)
    · replace h := h.1 c
      exact x_sub [1, 2, 3, 0] rfl (xX11_writePlace_17 hG h)
    · replace h := h.2 c
      refine x_iconst (v := (0 : Int32)) dX11_writePlace_21 rfl ?_
      exact x_sub [1, 2, 3, 0] rfl (xX11_writePlace_22 hG h)
theorem ct_X11_writePlace {G : Gx} (hG : gLy G = LyM) {σ : Sg} {l1 : Int32} {l2 : Int32} {Q : Sg → Prop} (h : wX11_writePlace σ l1 l2 Q) : CT G mX11_writePlace 5 [.ref (gad G 0), .int l1, .int l2] σ (qv Q) := ct_of rfl (Nat.le_of_ble_eq_true rfl) rfl (xX11_writePlace hG h)
/-! X11_copyPlaces copyPlaces -/
def wX11_copyPlaces_39 (σ : Sg) (l1 : Int32) (Q : Sg → Prop) : Prop :=
  wX11_failBy σ (1 : Int32) l1 (fun σ1 =>
  Q σ1
  )
set_option maxRecDepth 100000 in
set_option maxHeartbeats 4000000 in
theorem xX11_copyPlaces_39 {G : Gx} (hG : gLy G = LyM) {σ : Sg} {l1 : Int32} {Q : Sg → Prop} (h : wX11_copyPlaces_39 σ l1 Q) : X G mX11_copyPlaces 4 39 [(0, .ref (gad G 0)), (1, .int l1)] [] σ (qv Q) := by
  unfold wX11_copyPlaces_39 at h
  refine x_aload_n dX11_copyPlaces_39 rfl 0 rfl ?_
  refine x_iconst (v := (1 : Int32)) dX11_copyPlaces_40 rfl ?_
  refine x_iload_n dX11_copyPlaces_41 rfl 1 rfl ?_
  refine x_callVv [_, _] hG mv_X11_failBy lk_X11_243 rfl rfl rfl ⟨by decide, by decide⟩ rfl (Nat.le_of_ble_eq_true rfl) dX11_copyPlaces_42 (ct_X11_failBy hG h) (fun σ1 h => ?_)
  exact x_vret rfl dX11_copyPlaces_45 ⟨rfl, h⟩
def wX11_copyPlaces_85 (σ : Sg) (l1 : Int32) (Q : Sg → Prop) : Prop :=
  wX11_failBy σ (5 : Int32) l1 (fun σ1 =>
  Q σ1
  )
set_option maxRecDepth 100000 in
set_option maxHeartbeats 4000000 in
theorem xX11_copyPlaces_85 {G : Gx} (hG : gLy G = LyM) {σ : Sg} {l1 : Int32} {Q : Sg → Prop} (h : wX11_copyPlaces_85 σ l1 Q) : X G mX11_copyPlaces 4 85 [(0, .ref (gad G 0)), (1, .int l1)] [] σ (qv Q) := by
  unfold wX11_copyPlaces_85 at h
  refine x_aload_n dX11_copyPlaces_85 rfl 0 rfl ?_
  refine x_iconst (v := (5 : Int32)) dX11_copyPlaces_86 rfl ?_
  refine x_iload_n dX11_copyPlaces_87 rfl 1 rfl ?_
  refine x_callVv [_, _] hG mv_X11_failBy lk_X11_243 rfl rfl rfl ⟨by decide, by decide⟩ rfl (Nat.le_of_ble_eq_true rfl) dX11_copyPlaces_88 (ct_X11_failBy hG h) (fun σ1 h => ?_)
  exact x_vret rfl dX11_copyPlaces_91 ⟨rfl, h⟩
def wX11_copyPlaces_143 (σ : Sg) (l1 : Int32) (Q : Sg → Prop) : Prop :=
  wX11_failBy σ (2 : Int32) l1 (fun σ1 =>
  Q σ1
  )
set_option maxRecDepth 100000 in
set_option maxHeartbeats 4000000 in
theorem xX11_copyPlaces_143 {G : Gx} (hG : gLy G = LyM) {σ : Sg} {l1 : Int32} {Q : Sg → Prop} (h : wX11_copyPlaces_143 σ l1 Q) : X G mX11_copyPlaces 4 143 [(0, .ref (gad G 0)), (1, .int l1)] [] σ (qv Q) := by
  unfold wX11_copyPlaces_143 at h
  refine x_aload_n dX11_copyPlaces_143 rfl 0 rfl ?_
  refine x_iconst (v := (2 : Int32)) dX11_copyPlaces_144 rfl ?_
  refine x_iload_n dX11_copyPlaces_145 rfl 1 rfl ?_
  refine x_callVv [_, _] hG mv_X11_failBy lk_X11_243 rfl rfl rfl ⟨by decide, by decide⟩ rfl (Nat.le_of_ble_eq_true rfl) dX11_copyPlaces_146 (ct_X11_failBy hG h) (fun σ1 h => ?_)
  exact x_vret rfl dX11_copyPlaces_149 ⟨rfl, h⟩
def wX11_copyPlaces_153 : Nat → Sg → Int32 → Int32 → Int32 → Int32 → Int32 → (Sg → Prop) → Prop
  | 0 => fun _ _ _ _ _ _ _ => False
  | n + 1 => fun σ l1 l4 l5 l6 l7 Q =>
  (l7 < (sI σ 0 40) → (
    (l4 = (4 : Int32) → (
      vp_in (((16 : Int32) * l5) + l7) 3520 ∧
      ((sI σ 6 ((((16 : Int32) * l5) + l7)).toNatClampNeg) = (5 : Int32) → (
        wX11_failBy σ (5 : Int32) l1 (fun σ1 =>
        Q σ1
        )
      )) ∧ (¬ (sI σ 6 ((((16 : Int32) * l5) + l7)).toNatClampNeg) = (5 : Int32) → (
        vp_in (((16 : Int32) * l5) + l7) 3520 ∧
        vp_in (((16 : Int32) * l5) + l7) 3520 ∧
        wX11_write σ (((8 : Int32) + ((16 : Int32) * l6)) + l7) (sI σ 6 ((((16 : Int32) * l5) + l7)).toNatClampNeg) (sI σ 7 ((((16 : Int32) * l5) + l7)).toNatClampNeg) (fun σ2 =>
        wX11_copyPlaces_153 n σ2 l1 l4 l5 l6 (l7 + (1 : Int32)) Q
        )
      ))
    )) ∧ (¬ l4 = (4 : Int32) → (
      vp_in (((16 : Int32) * l5) + l7) 3520 ∧
      vp_in (((16 : Int32) * l5) + l7) 3520 ∧
      wX11_write σ (((8 : Int32) + ((16 : Int32) * l6)) + l7) (sI σ 6 ((((16 : Int32) * l5) + l7)).toNatClampNeg) (sI σ 7 ((((16 : Int32) * l5) + l7)).toNatClampNeg) (fun σ3 =>
      wX11_copyPlaces_153 n σ3 l1 l4 l5 l6 (l7 + (1 : Int32)) Q
      )
    ))
  )) ∧ (¬ l7 < (sI σ 0 40) → (
    Q σ
  ))
set_option maxRecDepth 100000 in
set_option maxHeartbeats 4000000 in
theorem xX11_copyPlaces_153 {G : Gx} (hG : gLy G = LyM) {Q : Sg → Prop} (n : Nat) : ∀ {σ : Sg} {l1 : Int32} {l4 : Int32} {l5 : Int32} {l6 : Int32} {l7 : Int32}, wX11_copyPlaces_153 n σ l1 l4 l5 l6 l7 Q → X G mX11_copyPlaces 4 153 [(0, .ref (gad G 0)), (1, .int l1), (4, .int l4), (5, .int l5), (6, .int l6), (7, .int l7)] [] σ (qv Q) := by
  induction n with
  | zero => intro σ l1 l4 l5 l6 l7 h; exact False.elim h
  | succ n ih =>
  intro σ l1 l4 l5 l6 l7 h
  unfold wX11_copyPlaces_153 at h
  refine x_iload dX11_copyPlaces_153 5 rfl ?_
  refine x_aload_n dX11_copyPlaces_155 rfl 0 rfl ?_
  refine x_getIv hG fg_X11_128 dX11_copyPlaces_156 rfl ?_
  refine x_icmp_ge dX11_copyPlaces_159 231 (by decide) (fun c => ?_) (fun c => ?_)
  · replace h := h.1 c
    refine x_bipush (v := (16 : Int32)) dX11_copyPlaces_162 rfl ?_
    refine x_iload dX11_copyPlaces_164 3 rfl ?_
    refine x_imul dX11_copyPlaces_166 ?_
    refine x_iload dX11_copyPlaces_167 5 rfl ?_
    refine x_iadd dX11_copyPlaces_169 ?_
    refine x_istore dX11_copyPlaces_170 (Nat.le_of_ble_eq_true rfl) (lv' := [(8, _), (0, _), (1, _), (4, _), (5, _), (6, _), (7, _)]) rfl ?_
    refine x_iload dX11_copyPlaces_172 3 rfl ?_
    refine x_iconst (v := (4 : Int32)) dX11_copyPlaces_174 rfl ?_
    refine x_icmp_ne dX11_copyPlaces_175 196 (by decide) (fun c => ?_) (fun c => ?_)
    · replace h := h.1 c
      refine x_aload_n dX11_copyPlaces_178 rfl 1 rfl ?_
      refine x_getR (q := 6) hG fg_X11_25 dX11_copyPlaces_179 ?_
      refine x_iload dX11_copyPlaces_182 0 rfl ?_
      refine x_ialdv hG rfl dX11_copyPlaces_184 h.1 rfl ?_
      replace h := h.2
      refine x_iconst (v := (5 : Int32)) dX11_copyPlaces_185 rfl ?_
      refine x_icmp_ne dX11_copyPlaces_186 196 (by decide) (fun c => ?_) (fun c => ?_)
      · replace h := h.1 c
        refine x_aload_n dX11_copyPlaces_189 rfl 1 rfl ?_
        refine x_iconst (v := (5 : Int32)) dX11_copyPlaces_190 rfl ?_
        refine x_iload_n dX11_copyPlaces_191 rfl 2 rfl ?_
        refine x_callVv [_, _] hG mv_X11_failBy lk_X11_243 rfl rfl rfl ⟨by decide, by decide⟩ rfl (Nat.le_of_ble_eq_true rfl) dX11_copyPlaces_192 (ct_X11_failBy hG h) (fun σ1 h => ?_)
        exact x_vret rfl dX11_copyPlaces_195 ⟨rfl, h⟩
      · replace h := h.2 c
        refine x_aload_n dX11_copyPlaces_196 rfl 1 rfl ?_
        refine x_bipush (v := (8 : Int32)) dX11_copyPlaces_197 rfl ?_
        refine x_bipush (v := (16 : Int32)) dX11_copyPlaces_199 rfl ?_
        refine x_iload dX11_copyPlaces_201 5 rfl ?_
        refine x_imul dX11_copyPlaces_203 ?_
        refine x_iadd dX11_copyPlaces_204 ?_
        refine x_iload dX11_copyPlaces_205 6 rfl ?_
        refine x_iadd dX11_copyPlaces_207 ?_
        refine x_aload_n dX11_copyPlaces_208 rfl 1 rfl ?_
        refine x_getR (q := 6) hG fg_X11_25 dX11_copyPlaces_209 ?_
        refine x_iload dX11_copyPlaces_212 0 rfl ?_
        refine x_ialdv hG rfl dX11_copyPlaces_214 h.1 rfl ?_
        replace h := h.2
        refine x_aload_n dX11_copyPlaces_215 rfl 1 rfl ?_
        refine x_getR (q := 7) hG fg_X11_28 dX11_copyPlaces_216 ?_
        refine x_iload dX11_copyPlaces_219 0 rfl ?_
        refine x_ialdv hG rfl dX11_copyPlaces_221 h.1 rfl ?_
        replace h := h.2
        refine x_callVv [_, _, _] hG mv_X11_write lk_X11_212 rfl rfl rfl ⟨by decide, by decide⟩ rfl (Nat.le_of_ble_eq_true rfl) dX11_copyPlaces_222 (ct_X11_write hG h) (fun σ2 h => ?_)
        refine x_iinc dX11_copyPlaces_225 6 rfl (v := _ + (1 : Int32)) rfl (Nat.le_of_ble_eq_true rfl) (lv' := [(7, _), (8, _), (0, _), (1, _), (4, _), (5, _), (6, _)]) rfl ?_
        refine x_goto dX11_copyPlaces_228 153 (by decide) ?_
        exact x_sub [2, 3, 4, 5, 6, 0] rfl (ih h)
    · replace h := h.2 c
      refine x_aload_n dX11_copyPlaces_196 rfl 1 rfl ?_
      refine x_bipush (v := (8 : Int32)) dX11_copyPlaces_197 rfl ?_
      refine x_bipush (v := (16 : Int32)) dX11_copyPlaces_199 rfl ?_
      refine x_iload dX11_copyPlaces_201 5 rfl ?_
      refine x_imul dX11_copyPlaces_203 ?_
      refine x_iadd dX11_copyPlaces_204 ?_
      refine x_iload dX11_copyPlaces_205 6 rfl ?_
      refine x_iadd dX11_copyPlaces_207 ?_
      refine x_aload_n dX11_copyPlaces_208 rfl 1 rfl ?_
      refine x_getR (q := 6) hG fg_X11_25 dX11_copyPlaces_209 ?_
      refine x_iload dX11_copyPlaces_212 0 rfl ?_
      refine x_ialdv hG rfl dX11_copyPlaces_214 h.1 rfl ?_
      replace h := h.2
      refine x_aload_n dX11_copyPlaces_215 rfl 1 rfl ?_
      refine x_getR (q := 7) hG fg_X11_28 dX11_copyPlaces_216 ?_
      refine x_iload dX11_copyPlaces_219 0 rfl ?_
      refine x_ialdv hG rfl dX11_copyPlaces_221 h.1 rfl ?_
      replace h := h.2
      refine x_callVv [_, _, _] hG mv_X11_write lk_X11_212 rfl rfl rfl ⟨by decide, by decide⟩ rfl (Nat.le_of_ble_eq_true rfl) dX11_copyPlaces_222 (ct_X11_write hG h) (fun σ3 h => ?_)
      refine x_iinc dX11_copyPlaces_225 6 rfl (v := _ + (1 : Int32)) rfl (Nat.le_of_ble_eq_true rfl) (lv' := [(7, _), (8, _), (0, _), (1, _), (4, _), (5, _), (6, _)]) rfl ?_
      refine x_goto dX11_copyPlaces_228 153 (by decide) ?_
      exact x_sub [2, 3, 4, 5, 6, 0] rfl (ih h)
  · replace h := h.2 c
    exact x_vret rfl dX11_copyPlaces_231 ⟨rfl, h⟩
def wX11_copyPlaces_82 (σ : Sg) (l1 : Int32) (l2 : Int32) (l4 : Int32) (s0 : Int32) (s1 : Int32) (Q : Sg → Prop) : Prop :=
  (s0 = s1 → (
    vp_in l2 220 ∧
    vp_in l2 220 ∧
    ((sI σ 0 40) < 0 → (
      wX11_copyPlaces_143 σ l1 Q
    )) ∧ (¬ (sI σ 0 40) < 0 → (
      vp_in (sI σ 25 (l2).toNatClampNeg) 220 ∧
      ((sI σ 5 ((sI σ 25 (l2).toNatClampNeg)).toNatClampNeg) < (sI σ 0 40) → (
        wX11_copyPlaces_143 σ l1 Q
      )) ∧ (¬ (sI σ 5 ((sI σ 25 (l2).toNatClampNeg)).toNatClampNeg) < (sI σ 0 40) → (
        vp_in (sI σ 27 (l2).toNatClampNeg) 220 ∧
        ((sI σ 5 ((sI σ 27 (l2).toNatClampNeg)).toNatClampNeg) < (sI σ 0 40) → (
          wX11_copyPlaces_143 σ l1 Q
        )) ∧ (¬ (sI σ 5 ((sI σ 27 (l2).toNatClampNeg)).toNatClampNeg) < (sI σ 0 40) → (
          ∃ n, wX11_copyPlaces_153 n σ l1 l4 (sI σ 25 (l2).toNatClampNeg) (sI σ 27 (l2).toNatClampNeg) (0 : Int32) Q
        ))
      ))
    ))
  )) ∧ (¬ s0 = s1 → (
    wX11_copyPlaces_85 σ l1 Q
  ))
set_option maxRecDepth 100000 in
set_option maxHeartbeats 4000000 in
theorem xX11_copyPlaces_82 {G : Gx} (hG : gLy G = LyM) {σ : Sg} {l1 : Int32} {l2 : Int32} {l4 : Int32} {s0 : Int32} {s1 : Int32} {Q : Sg → Prop} (h : wX11_copyPlaces_82 σ l1 l2 l4 s0 s1 Q) : X G mX11_copyPlaces 4 82 [(0, .ref (gad G 0)), (1, .int l1), (2, .int l2), (4, .int l4)] [.int s1, .int s0] σ (qv Q) := by
  unfold wX11_copyPlaces_82 at h
  refine x_icmp_eq dX11_copyPlaces_82 92 (by decide) (fun c => ?_) (fun c => ?_)
  · replace h := h.1 c
    refine x_aload_n dX11_copyPlaces_92 rfl 0 rfl ?_
    refine x_getR (q := 25) hG fg_X11_82 dX11_copyPlaces_93 ?_
    refine x_iload_n dX11_copyPlaces_96 rfl 2 rfl ?_
    refine x_ialdv hG rfl dX11_copyPlaces_97 h.1 rfl ?_
    replace h := h.2
    refine x_istore dX11_copyPlaces_98 (Nat.le_of_ble_eq_true rfl) (lv' := [(5, _), (0, _), (1, _), (2, _), (4, _)]) rfl ?_
    refine x_aload_n dX11_copyPlaces_100 rfl 1 rfl ?_
    refine x_getR (q := 27) hG fg_X11_88 dX11_copyPlaces_101 ?_
    refine x_iload_n dX11_copyPlaces_104 rfl 3 rfl ?_
    refine x_ialdv hG rfl dX11_copyPlaces_105 h.1 rfl ?_
    replace h := h.2
    refine x_istore dX11_copyPlaces_106 (Nat.le_of_ble_eq_true rfl) (lv' := [(6, _), (5, _), (0, _), (1, _), (2, _), (4, _)]) rfl ?_
    refine x_aload_n dX11_copyPlaces_108 rfl 2 rfl ?_
    refine x_getIv hG fg_X11_128 dX11_copyPlaces_109 rfl ?_
    refine x_if_lt dX11_copyPlaces_112 143 (by decide) (fun c => ?_) (fun c => ?_)
    · replace h := h.1 c
      exact x_sub [2, 3] rfl (xX11_copyPlaces_143 hG h)
    · replace h := h.2 c
      refine x_aload_n dX11_copyPlaces_115 rfl 2 rfl ?_
      refine x_getIv hG fg_X11_128 dX11_copyPlaces_116 rfl ?_
      refine x_aload_n dX11_copyPlaces_119 rfl 2 rfl ?_
      refine x_getR (q := 5) hG fg_X11_22 dX11_copyPlaces_120 ?_
      refine x_iload dX11_copyPlaces_123 1 rfl ?_
      refine x_ialdv hG rfl dX11_copyPlaces_125 h.1 rfl ?_
      replace h := h.2
      refine x_icmp_gt dX11_copyPlaces_126 143 (by decide) (fun c => ?_) (fun c => ?_)
      · replace h := h.1 c
        exact x_sub [2, 3] rfl (xX11_copyPlaces_143 hG h)
      · replace h := h.2 c
        refine x_aload_n dX11_copyPlaces_129 rfl 2 rfl ?_
        refine x_getIv hG fg_X11_128 dX11_copyPlaces_130 rfl ?_
        refine x_aload_n dX11_copyPlaces_133 rfl 2 rfl ?_
        refine x_getR (q := 5) hG fg_X11_22 dX11_copyPlaces_134 ?_
        refine x_iload dX11_copyPlaces_137 0 rfl ?_
        refine x_ialdv hG rfl dX11_copyPlaces_139 h.1 rfl ?_
        replace h := h.2
        refine x_icmp_le dX11_copyPlaces_140 150 (by decide) (fun c => ?_) (fun c => ?_)
        · replace h := h.1 c
          exact x_sub [2, 3] rfl (xX11_copyPlaces_143 hG h)
        · replace h := h.2 c
          refine x_iconst (v := (0 : Int32)) dX11_copyPlaces_150 rfl ?_
          refine x_istore dX11_copyPlaces_151 (Nat.le_of_ble_eq_true rfl) (lv' := [(7, _), (6, _), (5, _), (0, _), (1, _), (2, _), (4, _)]) rfl ?_
          obtain ⟨n, h⟩ := h
          exact x_sub [3, 4, 6, 2, 1, 0] rfl (xX11_copyPlaces_153 hG n h)
  · replace h := h.2 c
    exact x_sub [0, 1] rfl (xX11_copyPlaces_85 hG h)
def wX11_copyPlaces_71 (σ : Sg) (l1 : Int32) (l2 : Int32) (l4 : Int32) (s0 : Int32) (Q : Sg → Prop) : Prop :=
  (l4 = (2 : Int32) → (
    wX11_copyPlaces_82 σ l1 l2 l4 s0 (1 : Int32) Q
  )) ∧ (¬ l4 = (2 : Int32) → (
    wX11_copyPlaces_82 σ l1 l2 l4 s0 (0 : Int32) Q
  ))
set_option maxRecDepth 100000 in
set_option maxHeartbeats 4000000 in
theorem xX11_copyPlaces_71 {G : Gx} (hG : gLy G = LyM) {σ : Sg} {l1 : Int32} {l2 : Int32} {l4 : Int32} {s0 : Int32} {Q : Sg → Prop} (h : wX11_copyPlaces_71 σ l1 l2 l4 s0 Q) : X G mX11_copyPlaces 4 71 [(0, .ref (gad G 0)), (1, .int l1), (2, .int l2), (4, .int l4)] [.int s0] σ (qv Q) := by
  unfold wX11_copyPlaces_71 at h
  refine x_iload dX11_copyPlaces_71 3 rfl ?_
  refine x_iconst (v := (2 : Int32)) dX11_copyPlaces_73 rfl ?_
  refine x_icmp_ne dX11_copyPlaces_74 81 (by decide) (fun c => ?_) (fun c => ?_)
  · replace h := h.1 c
    refine x_iconst (v := (1 : Int32)) dX11_copyPlaces_77 rfl ?_
    refine x_goto dX11_copyPlaces_78 82 (by decide) ?_
    exact x_sub [0, 1, 2, 3] rfl (xX11_copyPlaces_82 hG h)
  · replace h := h.2 c
    refine x_iconst (v := (0 : Int32)) dX11_copyPlaces_81 rfl ?_
    exact x_sub [0, 1, 2, 3] rfl (xX11_copyPlaces_82 hG h)
def wX11_copyPlaces (σ : Sg) (l1 : Int32) (l2 : Int32) (Q : Sg → Prop) : Prop :=
  wX11_isWhole σ (sI σ 0 39) l1 (fun r2 σ1 =>
  (r2 = 0 → (
    Q σ1
  )) ∧ (¬ r2 = 0 → (
    vp_in l2 220 ∧
    vp_in l2 220 ∧
    ((sI σ1 24 (l2).toNatClampNeg) = (1 : Int32) → (
      wX11_copyPlaces_39 σ1 l1 Q
    )) ∧ (¬ (sI σ1 24 (l2).toNatClampNeg) = (1 : Int32) → (
      ((sI σ1 26 (l2).toNatClampNeg) = (1 : Int32) → (
        wX11_copyPlaces_39 σ1 l1 Q
      )) ∧ (¬ (sI σ1 26 (l2).toNatClampNeg) = (1 : Int32) → (
        wX11_isRow σ1 (sI σ1 24 (l2).toNatClampNeg) (fun r4 σ3 =>
        (r4 = 0 → (
          wX11_copyPlaces_85 σ3 l1 Q
        )) ∧ (¬ r4 = 0 → (
          wX11_isRow σ3 (sI σ1 26 (l2).toNatClampNeg) (fun r6 σ5 =>
          (r6 = 0 → (
            wX11_copyPlaces_85 σ5 l1 Q
          )) ∧ (¬ r6 = 0 → (
            ((sI σ1 24 (l2).toNatClampNeg) = (2 : Int32) → (
              wX11_copyPlaces_71 σ5 l1 l2 (sI σ1 26 (l2).toNatClampNeg) (1 : Int32) Q
            )) ∧ (¬ (sI σ1 24 (l2).toNatClampNeg) = (2 : Int32) → (
              wX11_copyPlaces_71 σ5 l1 l2 (sI σ1 26 (l2).toNatClampNeg) (0 : Int32) Q
            ))
          ))
          )
        ))
        )
      ))
    ))
  ))
  )
set_option maxRecDepth 100000 in
set_option maxHeartbeats 4000000 in
theorem xX11_copyPlaces {G : Gx} (hG : gLy G = LyM) {σ : Sg} {l1 : Int32} {l2 : Int32} {Q : Sg → Prop} (h : wX11_copyPlaces σ l1 l2 Q) : X G mX11_copyPlaces 4 0 [(0, .ref (gad G 0)), (1, .int l1), (2, .int l2)] [] σ (qv Q) := by
  unfold wX11_copyPlaces at h
  refine x_aload_n dX11_copyPlaces_0 rfl 0 rfl ?_
  refine x_aload_n dX11_copyPlaces_1 rfl 0 rfl ?_
  refine x_getIv hG fg_X11_125 dX11_copyPlaces_2 rfl ?_
  refine x_iload_n dX11_copyPlaces_5 rfl 1 rfl ?_
  refine x_callVi [_, _] hG mv_X11_isWhole lk_X11_218 rfl rfl rfl ⟨by decide, by decide⟩ rfl (Nat.le_of_ble_eq_true rfl) dX11_copyPlaces_6 (ct_X11_isWhole hG h) (fun r2 σ1 h => ?_)
  refine x_if_ne dX11_copyPlaces_9 13 (by decide) (fun c => ?_) (fun c => ?_)
  · replace h := h.1 c
    exact x_vret rfl dX11_copyPlaces_12 ⟨rfl, h⟩
  · replace h := h.2 c
    refine x_aload_n dX11_copyPlaces_13 rfl 0 rfl ?_
    refine x_getR (q := 24) hG fg_X11_79 dX11_copyPlaces_14 ?_
    refine x_iload_n dX11_copyPlaces_17 rfl 2 rfl ?_
    refine x_ialdv hG rfl dX11_copyPlaces_18 h.1 rfl ?_
    replace h := h.2
    refine x_istore_n dX11_copyPlaces_19 rfl (Nat.le_of_ble_eq_true rfl) (lv' := [(3, _), (0, _), (1, _), (2, _)]) rfl ?_
    refine x_aload_n dX11_copyPlaces_20 rfl 1 rfl ?_
    refine x_getR (q := 26) hG fg_X11_85 dX11_copyPlaces_21 ?_
    refine x_iload_n dX11_copyPlaces_24 rfl 3 rfl ?_
    refine x_ialdv hG rfl dX11_copyPlaces_25 h.1 rfl ?_
    replace h := h.2
    refine x_istore dX11_copyPlaces_26 (Nat.le_of_ble_eq_true rfl) (lv' := [(4, _), (3, _), (0, _), (1, _), (2, _)]) rfl ?_
    refine x_iload_n dX11_copyPlaces_28 rfl 1 rfl ?_
    refine x_iconst (v := (1 : Int32)) dX11_copyPlaces_29 rfl ?_
    refine x_icmp_eq dX11_copyPlaces_30 39 (by decide) (fun c => ?_) (fun c => ?_)
    · replace h := h.1 c
      exact x_sub [2, 3] rfl (xX11_copyPlaces_39 hG h)
    · replace h := h.2 c
      refine x_iload dX11_copyPlaces_33 0 rfl ?_
      refine x_iconst (v := (1 : Int32)) dX11_copyPlaces_35 rfl ?_
      refine x_icmp_ne dX11_copyPlaces_36 46 (by decide) (fun c => ?_) (fun c => ?_)
      · replace h := h.1 c
        exact x_sub [2, 3] rfl (xX11_copyPlaces_39 hG h)
      · replace h := h.2 c
        refine x_iload_n dX11_copyPlaces_46 rfl 1 rfl ?_
        refine x_callSi [_] ms_X11_isRow lk_X11_246 rfl ⟨by decide, by decide⟩ rfl (Nat.le_of_ble_eq_true rfl) dX11_copyPlaces_47 (ct_X11_isRow hG h) (fun r4 σ3 h => ?_)
        refine x_if_eq dX11_copyPlaces_50 85 (by decide) (fun c => ?_) (fun c => ?_)
        · replace h := h.1 c
          exact x_sub [2, 3] rfl (xX11_copyPlaces_85 hG h)
        · replace h := h.2 c
          refine x_iload dX11_copyPlaces_53 0 rfl ?_
          refine x_callSi [_] ms_X11_isRow lk_X11_246 rfl ⟨by decide, by decide⟩ rfl (Nat.le_of_ble_eq_true rfl) dX11_copyPlaces_55 (ct_X11_isRow hG h) (fun r6 σ5 h => ?_)
          refine x_if_eq dX11_copyPlaces_58 85 (by decide) (fun c => ?_) (fun c => ?_)
          · replace h := h.1 c
            exact x_sub [2, 3] rfl (xX11_copyPlaces_85 hG h)
          · replace h := h.2 c
            refine x_iload_n dX11_copyPlaces_61 rfl 1 rfl ?_
            refine x_iconst (v := (2 : Int32)) dX11_copyPlaces_62 rfl ?_
            refine x_icmp_ne dX11_copyPlaces_63 70 (by decide) (fun c => ?_) (fun c => ?_)
            · replace h := h.1 c
              refine x_iconst (v := (1 : Int32)) dX11_copyPlaces_66 rfl ?_
              refine x_goto dX11_copyPlaces_67 71 (by decide) ?_
              exact x_sub [2, 3, 4, 0] rfl (xX11_copyPlaces_71 hG h)
            · replace h := h.2 c
              refine x_iconst (v := (0 : Int32)) dX11_copyPlaces_70 rfl ?_
              exact x_sub [2, 3, 4, 0] rfl (xX11_copyPlaces_71 hG h)
theorem ct_X11_copyPlaces {G : Gx} (hG : gLy G = LyM) {σ : Sg} {l1 : Int32} {l2 : Int32} {Q : Sg → Prop} (h : wX11_copyPlaces σ l1 l2 Q) : CT G mX11_copyPlaces 4 [.ref (gad G 0), .int l1, .int l2] σ (qv Q) := ct_of rfl (Nat.le_of_ble_eq_true rfl) rfl (xX11_copyPlaces hG h)
/-! X11_upLoop upLoop -/
def wX11_upLoop (σ : Sg) (l1 : Int32) (l2 : Int32) (l3 : Int32) (l4 : Int32) (Q : Sg → Prop) : Prop :=
  (l4 = (1 : Int32) → (
    ((sI σ 0 45) = (sI σ 0 46) → (
      wX11_finish σ (9 : Int32) l2 (fun σ1 =>
      Q σ1
      )
    )) ∧ (¬ (sI σ 0 45) = (sI σ 0 46) → (
      let σ2 := wI σ 0 45 ((sI σ 0 45) + (1 : Int32))
      vp_in l1 220 ∧
      let σ3 := wI σ2 22 (l1).toNatClampNeg (0 : Int32)
      vp_in l2 60 ∧
      wX11_start σ3 (sI σ 2 (l2).toNatClampNeg) l3 (fun σ4 =>
      Q σ4
      )
    ))
  )) ∧ (¬ l4 = (1 : Int32) → (
    wX11_isWhole σ (sI σ 0 39) l2 (fun r6 σ5 =>
    (r6 = 0 → (
      let σ7 := wI σ5 0 26 ((sI σ5 0 26) - (1 : Int32))
      Q σ7
    )) ∧ (¬ r6 = 0 → (
      ((sI σ5 0 40) = 0 → (
        let σ8 := wI σ5 0 26 ((sI σ5 0 26) - (1 : Int32))
        wX11_value σ8 (1 : Int32) (0 : Int32) (fun σ9 =>
        Q σ9
        )
      )) ∧ (¬ (sI σ5 0 40) = 0 → (
        vp_in l1 220 ∧
        let σ10 := wI σ5 22 (l1).toNatClampNeg (1 : Int32)
        vp_in l2 60 ∧
        wX11_start σ10 (sI σ5 3 (l2).toNatClampNeg) l3 (fun σ11 =>
        Q σ11
        )
      ))
    ))
    )
  ))
set_option maxRecDepth 100000 in
set_option maxHeartbeats 4000000 in
theorem xX11_upLoop {G : Gx} (hG : gLy G = LyM) {σ : Sg} {l1 : Int32} {l2 : Int32} {l3 : Int32} {l4 : Int32} {Q : Sg → Prop} (h : wX11_upLoop σ l1 l2 l3 l4 Q) : X G mX11_upLoop 4 0 [(0, .ref (gad G 0)), (1, .int l1), (2, .int l2), (3, .int l3), (4, .int l4)] [] σ (qv Q) := by
  unfold wX11_upLoop at h
  refine x_iload dX11_upLoop_0 4 rfl ?_
  refine x_iconst (v := (1 : Int32)) dX11_upLoop_2 rfl ?_
  refine x_icmp_ne dX11_upLoop_3 56 (by decide) (fun c => ?_) (fun c => ?_)
  · replace h := h.1 c
    refine x_aload_n dX11_upLoop_6 rfl 0 rfl ?_
    refine x_getIv hG fg_X11_162 dX11_upLoop_7 rfl ?_
    refine x_aload_n dX11_upLoop_10 rfl 0 rfl ?_
    refine x_getIv hG fg_X11_165 dX11_upLoop_11 rfl ?_
    refine x_icmp_ne dX11_upLoop_14 25 (by decide) (fun c => ?_) (fun c => ?_)
    · replace h := h.1 c
      refine x_aload_n dX11_upLoop_17 rfl 0 rfl ?_
      refine x_bipush (v := (9 : Int32)) dX11_upLoop_18 rfl ?_
      refine x_iload_n dX11_upLoop_20 rfl 2 rfl ?_
      refine x_callVv [_, _] hG mv_X11_finish lk_X11_149 rfl rfl rfl ⟨by decide, by decide⟩ rfl (Nat.le_of_ble_eq_true rfl) dX11_upLoop_21 (ct_X11_finish hG h) (fun σ1 h => ?_)
      exact x_vret rfl dX11_upLoop_24 ⟨rfl, h⟩
    · replace h := h.2 c
      refine x_aload_n dX11_upLoop_25 rfl 0 rfl ?_
      refine x_dup dX11_upLoop_26 rfl ?_
      refine x_getIv hG fg_X11_162 dX11_upLoop_27 rfl ?_
      refine x_iconst (v := (1 : Int32)) dX11_upLoop_30 rfl ?_
      refine x_iadd dX11_upLoop_31 ?_
      refine x_putI hG fp_X11_162 dX11_upLoop_32 ?_
      refine x_aload_n dX11_upLoop_35 rfl 0 rfl ?_
      refine x_getR (q := 22) hG fg_X11_73 dX11_upLoop_36 ?_
      refine x_iload_n dX11_upLoop_39 rfl 1 rfl ?_
      refine x_iconst (v := (0 : Int32)) dX11_upLoop_40 rfl ?_
      refine x_iast hG rfl dX11_upLoop_41 h.1 ?_
      replace h := h.2
      refine x_aload_n dX11_upLoop_42 rfl 0 rfl ?_
      refine x_aload_n dX11_upLoop_43 rfl 0 rfl ?_
      refine x_getR (q := 2) hG fg_X11_13 dX11_upLoop_44 ?_
      refine x_iload_n dX11_upLoop_47 rfl 2 rfl ?_
      refine x_ialdv hG rfl dX11_upLoop_48 h.1 (rd_no (by decide) (rd_no (by decide) rfl)) ?_
      replace h := h.2
      refine x_iload_n dX11_upLoop_49 rfl 3 rfl ?_
      refine x_callVv [_, _] hG mv_X11_start lk_X11_177 rfl rfl rfl ⟨by decide, by decide⟩ rfl (Nat.le_of_ble_eq_true rfl) dX11_upLoop_50 (ct_X11_start hG h) (fun σ4 h => ?_)
      refine x_goto dX11_upLoop_53 125 (by decide) ?_
      exact x_vret rfl dX11_upLoop_125 ⟨rfl, h⟩
  · replace h := h.2 c
    refine x_aload_n dX11_upLoop_56 rfl 0 rfl ?_
    refine x_aload_n dX11_upLoop_57 rfl 0 rfl ?_
    refine x_getIv hG fg_X11_125 dX11_upLoop_58 rfl ?_
    refine x_iload_n dX11_upLoop_61 rfl 2 rfl ?_
    refine x_callVi [_, _] hG mv_X11_isWhole lk_X11_218 rfl rfl rfl ⟨by decide, by decide⟩ rfl (Nat.le_of_ble_eq_true rfl) dX11_upLoop_62 (ct_X11_isWhole hG h) (fun r6 σ5 h => ?_)
    refine x_if_ne dX11_upLoop_65 81 (by decide) (fun c => ?_) (fun c => ?_)
    · replace h := h.1 c
      refine x_aload_n dX11_upLoop_68 rfl 0 rfl ?_
      refine x_dup dX11_upLoop_69 rfl ?_
      refine x_getIv hG fg_X11_174 dX11_upLoop_70 rfl ?_
      refine x_iconst (v := (1 : Int32)) dX11_upLoop_73 rfl ?_
      refine x_isub dX11_upLoop_74 ?_
      refine x_putI hG fp_X11_174 dX11_upLoop_75 ?_
      refine x_goto dX11_upLoop_78 125 (by decide) ?_
      exact x_vret rfl dX11_upLoop_125 ⟨rfl, h⟩
    · replace h := h.2 c
      refine x_aload_n dX11_upLoop_81 rfl 0 rfl ?_
      refine x_getIv hG fg_X11_128 dX11_upLoop_82 rfl ?_
      refine x_if_ne dX11_upLoop_85 107 (by decide) (fun c => ?_) (fun c => ?_)
      · replace h := h.1 c
        refine x_aload_n dX11_upLoop_88 rfl 0 rfl ?_
        refine x_dup dX11_upLoop_89 rfl ?_
        refine x_getIv hG fg_X11_174 dX11_upLoop_90 rfl ?_
        refine x_iconst (v := (1 : Int32)) dX11_upLoop_93 rfl ?_
        refine x_isub dX11_upLoop_94 ?_
        refine x_putI hG fp_X11_174 dX11_upLoop_95 ?_
        refine x_aload_n dX11_upLoop_98 rfl 0 rfl ?_
        refine x_iconst (v := (1 : Int32)) dX11_upLoop_99 rfl ?_
        refine x_iconst (v := (0 : Int32)) dX11_upLoop_100 rfl ?_
        refine x_callVv [_, _] hG mv_X11_value lk_X11_168 rfl rfl rfl ⟨by decide, by decide⟩ rfl (Nat.le_of_ble_eq_true rfl) dX11_upLoop_101 (ct_X11_value hG h) (fun σ9 h => ?_)
        refine x_goto dX11_upLoop_104 125 (by decide) ?_
        exact x_vret rfl dX11_upLoop_125 ⟨rfl, h⟩
      · replace h := h.2 c
        refine x_aload_n dX11_upLoop_107 rfl 0 rfl ?_
        refine x_getR (q := 22) hG fg_X11_73 dX11_upLoop_108 ?_
        refine x_iload_n dX11_upLoop_111 rfl 1 rfl ?_
        refine x_iconst (v := (1 : Int32)) dX11_upLoop_112 rfl ?_
        refine x_iast hG rfl dX11_upLoop_113 h.1 ?_
        replace h := h.2
        refine x_aload_n dX11_upLoop_114 rfl 0 rfl ?_
        refine x_aload_n dX11_upLoop_115 rfl 0 rfl ?_
        refine x_getR (q := 3) hG fg_X11_16 dX11_upLoop_116 ?_
        refine x_iload_n dX11_upLoop_119 rfl 2 rfl ?_
        refine x_ialdv hG rfl dX11_upLoop_120 h.1 (rd_no (by decide) rfl) ?_
        replace h := h.2
        refine x_iload_n dX11_upLoop_121 rfl 3 rfl ?_
        refine x_callVv [_, _] hG mv_X11_start lk_X11_177 rfl rfl rfl ⟨by decide, by decide⟩ rfl (Nat.le_of_ble_eq_true rfl) dX11_upLoop_122 (ct_X11_start hG h) (fun σ11 h => ?_)
        exact x_vret rfl dX11_upLoop_125 ⟨rfl, h⟩
theorem ct_X11_upLoop {G : Gx} (hG : gLy G = LyM) {σ : Sg} {l1 : Int32} {l2 : Int32} {l3 : Int32} {l4 : Int32} {Q : Sg → Prop} (h : wX11_upLoop σ l1 l2 l3 l4 Q) : CT G mX11_upLoop 4 [.ref (gad G 0), .int l1, .int l2, .int l3, .int l4] σ (qv Q) := ct_of rfl (Nat.le_of_ble_eq_true rfl) rfl (xX11_upLoop hG h)
/-! X11_upCall upCall -/
def wX11_upCall (σ : Sg) (l1 : Int32) (l2 : Int32) (l3 : Int32) (Q : Sg → Prop) : Prop :=
  (l3 = (1 : Int32) → (
    let σ1 := wI σ 0 26 ((sI σ 0 26) - (1 : Int32))
    let σ2 := wI σ1 0 47 ((sI σ 0 47) - (1 : Int32))
    Q σ2
  )) ∧ (¬ l3 = (1 : Int32) → (
    vp_in l2 60 ∧
    wX11_noAct σ (sI σ 2 (l2).toNatClampNeg) (fun r4 σ3 =>
    (r4 = 0 → (
      ((sI σ3 0 47) = (8 : Int32) → (
        wX11_finish σ3 (11 : Int32) l2 (fun σ5 =>
        Q σ5
        )
      )) ∧ (¬ (sI σ3 0 47) = (8 : Int32) → (
        let σ6 := wI σ3 0 47 ((sI σ3 0 47) + (1 : Int32))
        wX11_newFrame σ6 (fun r8 σ7 =>
        vp_in ((8 : Int32) * r8) 1760 ∧
        let σ9 := wI σ7 13 (((8 : Int32) * r8)).toNatClampNeg (sI σ7 0 39)
        vp_in ((8 : Int32) * r8) 1760 ∧
        let σ10 := wI σ9 14 (((8 : Int32) * r8)).toNatClampNeg (sI σ7 0 40)
        vp_in l1 220 ∧
        let σ11 := wI σ10 22 (l1).toNatClampNeg (1 : Int32)
        vp_in l2 60 ∧
        wX11_start σ11 (sI σ7 2 (l2).toNatClampNeg) r8 (fun σ12 =>
        Q σ12
        )
        )
      ))
    )) ∧ (¬ r4 = 0 → (
      let σ13 := wI σ3 0 26 ((sI σ3 0 26) - (1 : Int32))
      wX11_value σ13 (1 : Int32) (0 : Int32) (fun σ14 =>
      Q σ14
      )
    ))
    )
  ))
set_option maxRecDepth 100000 in
set_option maxHeartbeats 4000000 in
theorem xX11_upCall {G : Gx} (hG : gLy G = LyM) {σ : Sg} {l1 : Int32} {l2 : Int32} {l3 : Int32} {Q : Sg → Prop} (h : wX11_upCall σ l1 l2 l3 Q) : X G mX11_upCall 3 0 [(0, .ref (gad G 0)), (1, .int l1), (2, .int l2), (3, .int l3)] [] σ (qv Q) := by
  unfold wX11_upCall at h
  refine x_iload_n dX11_upCall_0 rfl 3 rfl ?_
  refine x_iconst (v := (1 : Int32)) dX11_upCall_1 rfl ?_
  refine x_icmp_ne dX11_upCall_2 28 (by decide) (fun c => ?_) (fun c => ?_)
  · replace h := h.1 c
    refine x_aload_n dX11_upCall_5 rfl 0 rfl ?_
    refine x_dup dX11_upCall_6 rfl ?_
    refine x_getIv hG fg_X11_174 dX11_upCall_7 rfl ?_
    refine x_iconst (v := (1 : Int32)) dX11_upCall_10 rfl ?_
    refine x_isub dX11_upCall_11 ?_
    refine x_putI hG fp_X11_174 dX11_upCall_12 ?_
    refine x_aload_n dX11_upCall_15 rfl 0 rfl ?_
    refine x_dup dX11_upCall_16 rfl ?_
    refine x_getIv hG fg_X11_236 dX11_upCall_17 (rd_nj (by decide) rfl) ?_
    refine x_iconst (v := (1 : Int32)) dX11_upCall_20 rfl ?_
    refine x_isub dX11_upCall_21 ?_
    refine x_putI hG fp_X11_236 dX11_upCall_22 ?_
    refine x_goto dX11_upCall_25 142 (by decide) ?_
    exact x_vret rfl dX11_upCall_142 ⟨rfl, h⟩
  · replace h := h.2 c
    refine x_aload_n dX11_upCall_28 rfl 0 rfl ?_
    refine x_aload_n dX11_upCall_29 rfl 0 rfl ?_
    refine x_getR (q := 2) hG fg_X11_13 dX11_upCall_30 ?_
    refine x_iload_n dX11_upCall_33 rfl 2 rfl ?_
    refine x_ialdv hG rfl dX11_upCall_34 h.1 rfl ?_
    replace h := h.2
    refine x_callVi [_] hG mv_X11_noAct lk_X11_118 rfl rfl rfl ⟨by decide, by decide⟩ rfl (Nat.le_of_ble_eq_true rfl) dX11_upCall_35 (ct_X11_noAct hG h) (fun r4 σ3 h => ?_)
    refine x_if_eq dX11_upCall_38 60 (by decide) (fun c => ?_) (fun c => ?_)
    · replace h := h.1 c
      refine x_aload_n dX11_upCall_60 rfl 0 rfl ?_
      refine x_getIv hG fg_X11_236 dX11_upCall_61 rfl ?_
      refine x_bipush (v := (8 : Int32)) dX11_upCall_64 rfl ?_
      refine x_icmp_ne dX11_upCall_66 79 (by decide) (fun c => ?_) (fun c => ?_)
      · replace h := h.1 c
        refine x_aload_n dX11_upCall_69 rfl 0 rfl ?_
        refine x_bipush (v := (11 : Int32)) dX11_upCall_70 rfl ?_
        refine x_iload_n dX11_upCall_72 rfl 2 rfl ?_
        refine x_callVv [_, _] hG mv_X11_finish lk_X11_149 rfl rfl rfl ⟨by decide, by decide⟩ rfl (Nat.le_of_ble_eq_true rfl) dX11_upCall_73 (ct_X11_finish hG h) (fun σ5 h => ?_)
        refine x_goto dX11_upCall_76 142 (by decide) ?_
        exact x_vret rfl dX11_upCall_142 ⟨rfl, h⟩
      · replace h := h.2 c
        refine x_aload_n dX11_upCall_79 rfl 0 rfl ?_
        refine x_dup dX11_upCall_80 rfl ?_
        refine x_getIv hG fg_X11_236 dX11_upCall_81 rfl ?_
        refine x_iconst (v := (1 : Int32)) dX11_upCall_84 rfl ?_
        refine x_iadd dX11_upCall_85 ?_
        refine x_putI hG fp_X11_236 dX11_upCall_86 ?_
        refine x_aload_n dX11_upCall_89 rfl 0 rfl ?_
        refine x_callVi [] hG mv_X11_newFrame lk_X11_239 rfl rfl rfl ⟨by decide, by decide⟩ rfl (Nat.le_of_ble_eq_true rfl) dX11_upCall_90 (ct_X11_newFrame hG h) (fun r8 σ7 h => ?_)
        refine x_istore dX11_upCall_93 (Nat.le_of_ble_eq_true rfl) (lv' := [(4, _), (0, _), (1, _), (2, _), (3, _)]) rfl ?_
        refine x_aload_n dX11_upCall_95 rfl 1 rfl ?_
        refine x_getR (q := 13) hG fg_X11_46 dX11_upCall_96 ?_
        refine x_bipush (v := (8 : Int32)) dX11_upCall_99 rfl ?_
        refine x_iload dX11_upCall_101 0 rfl ?_
        refine x_imul dX11_upCall_103 ?_
        refine x_aload_n dX11_upCall_104 rfl 1 rfl ?_
        refine x_getIv hG fg_X11_125 dX11_upCall_105 rfl ?_
        refine x_iast hG rfl dX11_upCall_108 h.1 ?_
        replace h := h.2
        refine x_aload_n dX11_upCall_109 rfl 1 rfl ?_
        refine x_getR (q := 14) hG fg_X11_49 dX11_upCall_110 ?_
        refine x_bipush (v := (8 : Int32)) dX11_upCall_113 rfl ?_
        refine x_iload dX11_upCall_115 0 rfl ?_
        refine x_imul dX11_upCall_117 ?_
        refine x_aload_n dX11_upCall_118 rfl 1 rfl ?_
        refine x_getIv hG fg_X11_128 dX11_upCall_119 (rd_no (by decide) rfl) ?_
        refine x_iast hG rfl dX11_upCall_122 h.1 ?_
        replace h := h.2
        refine x_aload_n dX11_upCall_123 rfl 1 rfl ?_
        refine x_getR (q := 22) hG fg_X11_73 dX11_upCall_124 ?_
        refine x_iload_n dX11_upCall_127 rfl 2 rfl ?_
        refine x_iconst (v := (1 : Int32)) dX11_upCall_128 rfl ?_
        refine x_iast hG rfl dX11_upCall_129 h.1 ?_
        replace h := h.2
        refine x_aload_n dX11_upCall_130 rfl 1 rfl ?_
        refine x_aload_n dX11_upCall_131 rfl 1 rfl ?_
        refine x_getR (q := 2) hG fg_X11_13 dX11_upCall_132 ?_
        refine x_iload_n dX11_upCall_135 rfl 3 rfl ?_
        refine x_ialdv hG rfl dX11_upCall_136 h.1 (rd_no (by decide) (rd_no (by decide) (rd_no (by decide) rfl))) ?_
        replace h := h.2
        refine x_iload dX11_upCall_137 0 rfl ?_
        refine x_callVv [_, _] hG mv_X11_start lk_X11_177 rfl rfl rfl ⟨by decide, by decide⟩ rfl (Nat.le_of_ble_eq_true rfl) dX11_upCall_139 (ct_X11_start hG h) (fun σ12 h => ?_)
        exact x_vret rfl dX11_upCall_142 ⟨rfl, h⟩
    · replace h := h.2 c
      refine x_aload_n dX11_upCall_41 rfl 0 rfl ?_
      refine x_dup dX11_upCall_42 rfl ?_
      refine x_getIv hG fg_X11_174 dX11_upCall_43 rfl ?_
      refine x_iconst (v := (1 : Int32)) dX11_upCall_46 rfl ?_
      refine x_isub dX11_upCall_47 ?_
      refine x_putI hG fp_X11_174 dX11_upCall_48 ?_
      refine x_aload_n dX11_upCall_51 rfl 0 rfl ?_
      refine x_iconst (v := (1 : Int32)) dX11_upCall_52 rfl ?_
      refine x_iconst (v := (0 : Int32)) dX11_upCall_53 rfl ?_
      refine x_callVv [_, _] hG mv_X11_value lk_X11_168 rfl rfl rfl ⟨by decide, by decide⟩ rfl (Nat.le_of_ble_eq_true rfl) dX11_upCall_54 (ct_X11_value hG h) (fun σ14 h => ?_)
      refine x_goto dX11_upCall_57 142 (by decide) ?_
      exact x_vret rfl dX11_upCall_142 ⟨rfl, h⟩
theorem ct_X11_upCall {G : Gx} (hG : gLy G = LyM) {σ : Sg} {l1 : Int32} {l2 : Int32} {l3 : Int32} {Q : Sg → Prop} (h : wX11_upCall σ l1 l2 l3 Q) : CT G mX11_upCall 3 [.ref (gad G 0), .int l1, .int l2, .int l3] σ (qv Q) := ct_of rfl (Nat.le_of_ble_eq_true rfl) rfl (xX11_upCall hG h)
/-! X11_upWork upWork -/
def wX11_upWork_87 (σ : Sg) (l2 : Int32) (s1 : Int32) (Q : Sg → Prop) : Prop :=
  wX11_failBy σ s1 l2 (fun σ1 =>
  Q σ1
  )
set_option maxRecDepth 100000 in
set_option maxHeartbeats 4000000 in
theorem xX11_upWork_87 {G : Gx} (hG : gLy G = LyM) {σ : Sg} {l2 : Int32} {s1 : Int32} {Q : Sg → Prop} (h : wX11_upWork_87 σ l2 s1 Q) : X G mX11_upWork 4 87 [(2, .int l2)] [.int s1, .ref (gad G 0)] σ (qv Q) := by
  unfold wX11_upWork_87 at h
  refine x_iload_n dX11_upWork_87 rfl 0 rfl ?_
  refine x_callVv [_, _] hG mv_X11_failBy lk_X11_243 rfl rfl rfl ⟨by decide, by decide⟩ rfl (Nat.le_of_ble_eq_true rfl) dX11_upWork_88 (ct_X11_failBy hG h) (fun σ1 h => ?_)
  exact x_vret rfl dX11_upWork_91 ⟨rfl, h⟩
def wX11_upWork (σ : Sg) (l1 : Int32) (l2 : Int32) (l3 : Int32) (Q : Sg → Prop) : Prop :=
  (l3 = (1 : Int32) → (
    vp_in l1 220 ∧
    vp_in (sI σ 25 (l1).toNatClampNeg) 220 ∧
    let σ1 := wI σ 10 ((sI σ 25 (l1).toNatClampNeg)).toNatClampNeg (2 : Int32)
    vp_in (sI σ 25 (l1).toNatClampNeg) 220 ∧
    let σ2 := wI σ1 11 ((sI σ 25 (l1).toNatClampNeg)).toNatClampNeg (sI σ 0 39)
    vp_in (sI σ 25 (l1).toNatClampNeg) 220 ∧
    let σ3 := wI σ2 12 ((sI σ 25 (l1).toNatClampNeg)).toNatClampNeg (sI σ 0 40)
    let σ4 := wI σ3 0 26 ((sI σ 0 26) - (1 : Int32))
    Q σ4
  )) ∧ (¬ l3 = (1 : Int32) → (
    ((sI σ 0 39) = (7 : Int32) → (
      vp_in (sI σ 0 40) 220 ∧
      ((sI σ 10 ((sI σ 0 40)).toNatClampNeg) = 0 → (
        vp_in (sI σ 0 40) 220 ∧
        let σ5 := wI σ 10 ((sI σ 0 40)).toNatClampNeg (1 : Int32)
        vp_in l1 220 ∧
        let σ6 := wI σ5 25 (l1).toNatClampNeg (sI σ 0 40)
        vp_in l1 220 ∧
        let σ7 := wI σ6 22 (l1).toNatClampNeg (1 : Int32)
        vp_in (sI σ 0 40) 220 ∧
        vp_in (sI σ 0 40) 220 ∧
        wX11_start σ7 (sI σ 8 ((sI σ 0 40)).toNatClampNeg) (sI σ 9 ((sI σ 0 40)).toNatClampNeg) (fun σ8 =>
        Q σ8
        )
      )) ∧ (¬ (sI σ 10 ((sI σ 0 40)).toNatClampNeg) = 0 → (
        let σ9 := wI σ 0 26 ((sI σ 0 26) - (1 : Int32))
        vp_in (sI σ 0 40) 220 ∧
        ((sI σ 10 ((sI σ 0 40)).toNatClampNeg) = (1 : Int32) → (
          wX11_failBy σ9 (8 : Int32) l2 (fun σ10 =>
          Q σ10
          )
        )) ∧ (¬ (sI σ 10 ((sI σ 0 40)).toNatClampNeg) = (1 : Int32) → (
          vp_in (sI σ 0 40) 220 ∧
          ((sI σ 10 ((sI σ 0 40)).toNatClampNeg) = (2 : Int32) → (
            vp_in (sI σ 0 40) 220 ∧
            vp_in (sI σ 0 40) 220 ∧
            wX11_value σ9 (sI σ 11 ((sI σ 0 40)).toNatClampNeg) (sI σ 12 ((sI σ 0 40)).toNatClampNeg) (fun σ11 =>
            Q σ11
            )
          )) ∧ (¬ (sI σ 10 ((sI σ 0 40)).toNatClampNeg) = (2 : Int32) → (
            vp_in (sI σ 0 40) 220 ∧
            vp_in (sI σ 0 40) 220 ∧
            wX11_fail σ9 (sI σ 11 ((sI σ 0 40)).toNatClampNeg) (sI σ 12 ((sI σ 0 40)).toNatClampNeg) l2 (fun σ12 =>
            Q σ12
            )
          ))
        ))
      ))
    )) ∧ (¬ (sI σ 0 39) = (7 : Int32) → (
      let σ13 := wI σ 0 26 ((sI σ 0 26) - (1 : Int32))
      ((sI σ 0 39) = (1 : Int32) → (
        wX11_upWork_87 σ13 l2 (1 : Int32) Q
      )) ∧ (¬ (sI σ 0 39) = (1 : Int32) → (
        wX11_upWork_87 σ13 l2 (4 : Int32) Q
      ))
    ))
  ))
set_option maxRecDepth 100000 in
set_option maxHeartbeats 4000000 in
theorem xX11_upWork {G : Gx} (hG : gLy G = LyM) {σ : Sg} {l1 : Int32} {l2 : Int32} {l3 : Int32} {Q : Sg → Prop} (h : wX11_upWork σ l1 l2 l3 Q) : X G mX11_upWork 4 0 [(0, .ref (gad G 0)), (1, .int l1), (2, .int l2), (3, .int l3)] [] σ (qv Q) := by
  unfold wX11_upWork at h
  refine x_iload_n dX11_upWork_0 rfl 3 rfl ?_
  refine x_iconst (v := (1 : Int32)) dX11_upWork_1 rfl ?_
  refine x_icmp_ne dX11_upWork_2 54 (by decide) (fun c => ?_) (fun c => ?_)
  · replace h := h.1 c
    refine x_aload_n dX11_upWork_5 rfl 0 rfl ?_
    refine x_getR (q := 25) hG fg_X11_82 dX11_upWork_6 ?_
    refine x_iload_n dX11_upWork_9 rfl 1 rfl ?_
    refine x_ialdv hG rfl dX11_upWork_10 h.1 rfl ?_
    replace h := h.2
    refine x_istore dX11_upWork_11 (Nat.le_of_ble_eq_true rfl) (lv' := [(4, _), (0, _), (1, _), (2, _), (3, _)]) rfl ?_
    refine x_aload_n dX11_upWork_13 rfl 1 rfl ?_
    refine x_getR (q := 10) hG fg_X11_37 dX11_upWork_14 ?_
    refine x_iload dX11_upWork_17 0 rfl ?_
    refine x_iconst (v := (2 : Int32)) dX11_upWork_19 rfl ?_
    refine x_iast hG rfl dX11_upWork_20 h.1 ?_
    replace h := h.2
    refine x_aload_n dX11_upWork_21 rfl 1 rfl ?_
    refine x_getR (q := 11) hG fg_X11_40 dX11_upWork_22 ?_
    refine x_iload dX11_upWork_25 0 rfl ?_
    refine x_aload_n dX11_upWork_27 rfl 1 rfl ?_
    refine x_getIv hG fg_X11_125 dX11_upWork_28 (rd_no (by decide) rfl) ?_
    refine x_iast hG rfl dX11_upWork_31 h.1 ?_
    replace h := h.2
    refine x_aload_n dX11_upWork_32 rfl 1 rfl ?_
    refine x_getR (q := 12) hG fg_X11_43 dX11_upWork_33 ?_
    refine x_iload dX11_upWork_36 0 rfl ?_
    refine x_aload_n dX11_upWork_38 rfl 1 rfl ?_
    refine x_getIv hG fg_X11_128 dX11_upWork_39 (rd_no (by decide) (rd_no (by decide) rfl)) ?_
    refine x_iast hG rfl dX11_upWork_42 h.1 ?_
    replace h := h.2
    refine x_aload_n dX11_upWork_43 rfl 1 rfl ?_
    refine x_dup dX11_upWork_44 rfl ?_
    refine x_getIv hG fg_X11_174 dX11_upWork_45 (rd_no (by decide) (rd_no (by decide) (rd_no (by decide) rfl))) ?_
    refine x_iconst (v := (1 : Int32)) dX11_upWork_48 rfl ?_
    refine x_isub dX11_upWork_49 ?_
    refine x_putI hG fp_X11_174 dX11_upWork_50 ?_
    exact x_vret rfl dX11_upWork_53 ⟨rfl, h⟩
  · replace h := h.2 c
    refine x_aload_n dX11_upWork_54 rfl 0 rfl ?_
    refine x_getIv hG fg_X11_125 dX11_upWork_55 rfl ?_
    refine x_bipush (v := (7 : Int32)) dX11_upWork_58 rfl ?_
    refine x_icmp_eq dX11_upWork_60 92 (by decide) (fun c => ?_) (fun c => ?_)
    · replace h := h.1 c
      refine x_aload_n dX11_upWork_92 rfl 0 rfl ?_
      refine x_getIv hG fg_X11_128 dX11_upWork_93 rfl ?_
      refine x_istore dX11_upWork_96 (Nat.le_of_ble_eq_true rfl) (lv' := [(4, _), (0, _), (1, _), (2, _), (3, _)]) rfl ?_
      refine x_aload_n dX11_upWork_98 rfl 1 rfl ?_
      refine x_getR (q := 10) hG fg_X11_37 dX11_upWork_99 ?_
      refine x_iload dX11_upWork_102 0 rfl ?_
      refine x_ialdv hG rfl dX11_upWork_104 h.1 rfl ?_
      replace h := h.2
      refine x_if_ne dX11_upWork_105 150 (by decide) (fun c => ?_) (fun c => ?_)
      · replace h := h.1 c
        refine x_aload_n dX11_upWork_108 rfl 1 rfl ?_
        refine x_getR (q := 10) hG fg_X11_37 dX11_upWork_109 ?_
        refine x_iload dX11_upWork_112 0 rfl ?_
        refine x_iconst (v := (1 : Int32)) dX11_upWork_114 rfl ?_
        refine x_iast hG rfl dX11_upWork_115 h.1 ?_
        replace h := h.2
        refine x_aload_n dX11_upWork_116 rfl 1 rfl ?_
        refine x_getR (q := 25) hG fg_X11_82 dX11_upWork_117 ?_
        refine x_iload_n dX11_upWork_120 rfl 2 rfl ?_
        refine x_iload dX11_upWork_121 0 rfl ?_
        refine x_iast hG rfl dX11_upWork_123 h.1 ?_
        replace h := h.2
        refine x_aload_n dX11_upWork_124 rfl 1 rfl ?_
        refine x_getR (q := 22) hG fg_X11_73 dX11_upWork_125 ?_
        refine x_iload_n dX11_upWork_128 rfl 2 rfl ?_
        refine x_iconst (v := (1 : Int32)) dX11_upWork_129 rfl ?_
        refine x_iast hG rfl dX11_upWork_130 h.1 ?_
        replace h := h.2
        refine x_aload_n dX11_upWork_131 rfl 1 rfl ?_
        refine x_aload_n dX11_upWork_132 rfl 1 rfl ?_
        refine x_getR (q := 8) hG fg_X11_31 dX11_upWork_133 ?_
        refine x_iload dX11_upWork_136 0 rfl ?_
        refine x_ialdv hG rfl dX11_upWork_138 h.1 (rd_no (by decide) (rd_no (by decide) (rd_no (by decide) rfl))) ?_
        replace h := h.2
        refine x_aload_n dX11_upWork_139 rfl 1 rfl ?_
        refine x_getR (q := 9) hG fg_X11_34 dX11_upWork_140 ?_
        refine x_iload dX11_upWork_143 0 rfl ?_
        refine x_ialdv hG rfl dX11_upWork_145 h.1 (rd_no (by decide) (rd_no (by decide) (rd_no (by decide) rfl))) ?_
        replace h := h.2
        refine x_callVv [_, _] hG mv_X11_start lk_X11_177 rfl rfl rfl ⟨by decide, by decide⟩ rfl (Nat.le_of_ble_eq_true rfl) dX11_upWork_146 (ct_X11_start hG h) (fun σ8 h => ?_)
        exact x_vret rfl dX11_upWork_149 ⟨rfl, h⟩
      · replace h := h.2 c
        refine x_aload_n dX11_upWork_150 rfl 1 rfl ?_
        refine x_dup dX11_upWork_151 rfl ?_
        refine x_getIv hG fg_X11_174 dX11_upWork_152 rfl ?_
        refine x_iconst (v := (1 : Int32)) dX11_upWork_155 rfl ?_
        refine x_isub dX11_upWork_156 ?_
        refine x_putI hG fp_X11_174 dX11_upWork_157 ?_
        refine x_aload_n dX11_upWork_160 rfl 1 rfl ?_
        refine x_getR (q := 10) hG fg_X11_37 dX11_upWork_161 ?_
        refine x_iload dX11_upWork_164 0 rfl ?_
        refine x_ialdv hG rfl dX11_upWork_166 h.1 (rd_no (by decide) rfl) ?_
        replace h := h.2
        refine x_iconst (v := (1 : Int32)) dX11_upWork_167 rfl ?_
        refine x_icmp_ne dX11_upWork_168 181 (by decide) (fun c => ?_) (fun c => ?_)
        · replace h := h.1 c
          refine x_aload_n dX11_upWork_171 rfl 1 rfl ?_
          refine x_bipush (v := (8 : Int32)) dX11_upWork_172 rfl ?_
          refine x_iload_n dX11_upWork_174 rfl 3 rfl ?_
          refine x_callVv [_, _] hG mv_X11_failBy lk_X11_243 rfl rfl rfl ⟨by decide, by decide⟩ rfl (Nat.le_of_ble_eq_true rfl) dX11_upWork_175 (ct_X11_failBy hG h) (fun σ10 h => ?_)
          refine x_goto dX11_upWork_178 232 (by decide) ?_
          exact x_vret rfl dX11_upWork_232 ⟨rfl, h⟩
        · replace h := h.2 c
          refine x_aload_n dX11_upWork_181 rfl 1 rfl ?_
          refine x_getR (q := 10) hG fg_X11_37 dX11_upWork_182 ?_
          refine x_iload dX11_upWork_185 0 rfl ?_
          refine x_ialdv hG rfl dX11_upWork_187 h.1 (rd_no (by decide) rfl) ?_
          replace h := h.2
          refine x_iconst (v := (2 : Int32)) dX11_upWork_188 rfl ?_
          refine x_icmp_ne dX11_upWork_189 213 (by decide) (fun c => ?_) (fun c => ?_)
          · replace h := h.1 c
            refine x_aload_n dX11_upWork_192 rfl 1 rfl ?_
            refine x_aload_n dX11_upWork_193 rfl 1 rfl ?_
            refine x_getR (q := 11) hG fg_X11_40 dX11_upWork_194 ?_
            refine x_iload dX11_upWork_197 0 rfl ?_
            refine x_ialdv hG rfl dX11_upWork_199 h.1 (rd_no (by decide) rfl) ?_
            replace h := h.2
            refine x_aload_n dX11_upWork_200 rfl 1 rfl ?_
            refine x_getR (q := 12) hG fg_X11_43 dX11_upWork_201 ?_
            refine x_iload dX11_upWork_204 0 rfl ?_
            refine x_ialdv hG rfl dX11_upWork_206 h.1 (rd_no (by decide) rfl) ?_
            replace h := h.2
            refine x_callVv [_, _] hG mv_X11_value lk_X11_168 rfl rfl rfl ⟨by decide, by decide⟩ rfl (Nat.le_of_ble_eq_true rfl) dX11_upWork_207 (ct_X11_value hG h) (fun σ11 h => ?_)
            refine x_goto dX11_upWork_210 232 (by decide) ?_
            exact x_vret rfl dX11_upWork_232 ⟨rfl, h⟩
          · replace h := h.2 c
            refine x_aload_n dX11_upWork_213 rfl 1 rfl ?_
            refine x_aload_n dX11_upWork_214 rfl 1 rfl ?_
            refine x_getR (q := 11) hG fg_X11_40 dX11_upWork_215 ?_
            refine x_iload dX11_upWork_218 0 rfl ?_
            refine x_ialdv hG rfl dX11_upWork_220 h.1 (rd_no (by decide) rfl) ?_
            replace h := h.2
            refine x_aload_n dX11_upWork_221 rfl 1 rfl ?_
            refine x_getR (q := 12) hG fg_X11_43 dX11_upWork_222 ?_
            refine x_iload dX11_upWork_225 0 rfl ?_
            refine x_ialdv hG rfl dX11_upWork_227 h.1 (rd_no (by decide) rfl) ?_
            replace h := h.2
            refine x_iload_n dX11_upWork_228 rfl 3 rfl ?_
            refine x_callVv [_, _, _] hG mv_X11_fail lk_X11_180 rfl rfl rfl ⟨by decide, by decide⟩ rfl (Nat.le_of_ble_eq_true rfl) dX11_upWork_229 (ct_X11_fail hG h) (fun σ12 h => ?_)
            exact x_vret rfl dX11_upWork_232 ⟨rfl, h⟩
    · replace h := h.2 c
      refine x_aload_n dX11_upWork_63 rfl 0 rfl ?_
      refine x_dup dX11_upWork_64 rfl ?_
      refine x_getIv hG fg_X11_174 dX11_upWork_65 rfl ?_
      refine x_iconst (v := (1 : Int32)) dX11_upWork_68 rfl ?_
      refine x_isub dX11_upWork_69 ?_
      refine x_putI hG fp_X11_174 dX11_upWork_70 ?_
      refine x_aload_n dX11_upWork_73 rfl 0 rfl ?_
      refine x_aload_n dX11_upWork_74 rfl 0 rfl ?_
      refine x_getIv hG fg_X11_125 dX11_upWork_75 (rd_nj (by decide) rfl) ?_
      refine x_iconst (v := (1 : Int32)) dX11_upWork_78 rfl ?_
      refine x_icmp_ne dX11_upWork_79 86 (by decide) (fun c => ?_) (fun c => ?_)
      · replace h := h.1 c
        refine x_iconst (v := (1 : Int32)) dX11_upWork_82 rfl ?_
        refine x_goto dX11_upWork_83 87 (by decide) ?_
        exact x_sub [2] rfl (xX11_upWork_87 hG h)
      · replace h := h.2 c
        refine x_iconst (v := (4 : Int32)) dX11_upWork_86 rfl ?_
        exact x_sub [2] rfl (xX11_upWork_87 hG h)
theorem ct_X11_upWork {G : Gx} (hG : gLy G = LyM) {σ : Sg} {l1 : Int32} {l2 : Int32} {l3 : Int32} {Q : Sg → Prop} (h : wX11_upWork σ l1 l2 l3 Q) : CT G mX11_upWork 4 [.ref (gad G 0), .int l1, .int l2, .int l3] σ (qv Q) := ct_of rfl (Nat.le_of_ble_eq_true rfl) rfl (xX11_upWork hG h)
