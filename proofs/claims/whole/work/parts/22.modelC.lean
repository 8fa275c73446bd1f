/-! X11_upLater upLater -/
def wX11_upLater_190 (σ : Sg) (l3 : Int32) (s1 : Int32) (Q : Sg → Prop) : Prop :=
  wX11_start σ s1 l3 (fun σ1 =>
  Q σ1
  )
set_option maxRecDepth 100000 in
set_option maxHeartbeats 4000000 in
theorem xX11_upLater_190 {G : Gx} (hG : gLy G = LyM) {σ : Sg} {l3 : Int32} {s1 : Int32} {Q : Sg → Prop} (h : wX11_upLater_190 σ l3 s1 Q) : X G mX11_upLater 5 190 [(3, .int l3)] [.int s1, .ref (gad G 0)] σ (qv Q) := by
  unfold wX11_upLater_190 at h
  refine x_iload_n dX11_upLater_190 rfl 0 rfl ?_
  refine x_callVv [_, _] hG mv_X11_start lk_X11_177 rfl rfl rfl ⟨by decide, by decide⟩ rfl (Nat.le_of_ble_eq_true rfl) dX11_upLater_191 (ct_X11_start hG h) (fun σ1 h => ?_)
  refine x_goto dX11_upLater_194 342 (by decide) ?_
  exact x_vret rfl dX11_upLater_342 ⟨rfl, h⟩
def wX11_upLater_332 (σ : Sg) (Q : Sg → Prop) : Prop :=
  let σ1 := wI σ 0 26 ((sI σ 0 26) - (1 : Int32))
  Q σ1
set_option maxRecDepth 100000 in
set_option maxHeartbeats 4000000 in
theorem xX11_upLater_332 {G : Gx} (hG : gLy G = LyM) {σ : Sg} {Q : Sg → Prop} (h : wX11_upLater_332 σ Q) : X G mX11_upLater 5 332 [(0, .ref (gad G 0))] [] σ (qv Q) := by
  unfold wX11_upLater_332 at h
  refine x_aload_n dX11_upLater_332 rfl 0 rfl ?_
  refine x_dup dX11_upLater_333 rfl ?_
  refine x_getIv hG fg_X11_174 dX11_upLater_334 rfl ?_
  refine x_iconst (v := (1 : Int32)) dX11_upLater_337 rfl ?_
  refine x_isub dX11_upLater_338 ?_
  refine x_putI hG fp_X11_174 dX11_upLater_339 ?_
  exact x_vret rfl dX11_upLater_342 ⟨rfl, h⟩
def wX11_upLater (σ : Sg) (l1 : Int32) (l2 : Int32) (l3 : Int32) (l4 : Int32) (l5 : Int32) (Q : Sg → Prop) : Prop :=
  (l4 = 22 → (
    let σ1 := wI σ 0 26 ((sI σ 0 26) - (1 : Int32))
    (l5 = (1 : Int32) → (
      vp_in l1 220 ∧
      vp_in l1 220 ∧
      wX11_value σ1 (sI σ 24 (l1).toNatClampNeg) (sI σ 25 (l1).toNatClampNeg) (fun σ2 =>
      Q σ2
      )
    )) ∧ (¬ l5 = (1 : Int32) → (
      let σ3 := wI σ1 0 36 (2 : Int32)
      vp_in l1 220 ∧
      let σ4 := wI σ3 0 41 (sI σ 24 (l1).toNatClampNeg)
      vp_in l1 220 ∧
      let σ5 := wI σ4 0 42 (sI σ 25 (l1).toNatClampNeg)
      vp_in l1 220 ∧
      let σ6 := wI σ5 0 43 (sI σ 29 (l1).toNatClampNeg)
      Q σ6
    ))
  )) ∧
  (l4 = 23 → (
    (l5 = (1 : Int32) → (
      let σ7 := wI σ 0 26 ((sI σ 0 26) - (1 : Int32))
      Q σ7
    )) ∧ (¬ l5 = (1 : Int32) → (
      wX11_isWhole σ (sI σ 0 39) l2 (fun r9 σ8 =>
      (r9 = 0 → (
        let σ10 := wI σ8 0 26 ((sI σ8 0 26) - (1 : Int32))
        Q σ10
      )) ∧ (¬ r9 = 0 → (
        vp_in l1 220 ∧
        let σ11 := wI σ8 22 (l1).toNatClampNeg (1 : Int32)
        ((sI σ8 0 40) = 0 → (
          vp_in l2 60 ∧
          wX11_upLater_190 σ11 l3 (sI σ8 4 (l2).toNatClampNeg) Q
        )) ∧ (¬ (sI σ8 0 40) = 0 → (
          vp_in l2 60 ∧
          wX11_upLater_190 σ11 l3 (sI σ8 3 (l2).toNatClampNeg) Q
        ))
      ))
      )
    ))
  )) ∧
  (l4 = 24 → (
    wX11_upLoop σ l1 l2 l3 l5 (fun σ12 =>
    Q σ12
    )
  )) ∧
  (l4 = 25 → (
    wX11_upCall σ l1 l2 l5 (fun σ13 =>
    Q σ13
    )
  )) ∧
  (l4 = 26 → (
    let σ14 := wI σ 0 26 ((sI σ 0 26) - (1 : Int32))
    wX11_isWhole σ14 (sI σ 0 39) l2 (fun r16 σ15 =>
    (r16 = 0 → (
      Q σ15
    )) ∧ (¬ r16 = 0 → (
      ((sI σ15 0 24) < (40 : Int32) → (
        vp_in (sI σ15 0 24) 40 ∧
        let σ17 := wI σ15 20 ((sI σ15 0 24)).toNatClampNeg (sI σ15 0 40)
        let σ18 := wI σ17 0 24 ((sI σ15 0 24) + (1 : Int32))
        Q σ18
      )) ∧ (¬ (sI σ15 0 24) < (40 : Int32) → (
        Q σ15
      ))
    ))
    )
  )) ∧
  (l4 = 27 → (
    wX11_upLater_332 σ Q
  )) ∧
  (l4 = 28 → (
    wX11_upWork σ l1 l2 l5 (fun σ19 =>
    Q σ19
    )
  )) ∧
  (l4 = 29 → (
    wX11_upLater_332 σ Q
  )) ∧
  (l4 = 30 → (
    wX11_upLater_332 σ Q
  )) ∧
  (l4 = 31 → (
    let σ20 := wI σ 0 26 ((sI σ 0 26) - (1 : Int32))
    vp_in l2 60 ∧
    wX11_write σ20 (sI σ 2 (l2).toNatClampNeg) (sI σ 0 39) (sI σ 0 40) (fun σ21 =>
    Q σ21
    )
  )) ∧
  (¬ l4 = 22 → ¬ l4 = 23 → ¬ l4 = 24 → ¬ l4 = 25 → ¬ l4 = 26 → ¬ l4 = 27 → ¬ l4 = 28 → ¬ l4 = 29 → ¬ l4 = 30 → ¬ l4 = 31 → (
    wX11_upLater_332 σ Q
  ))
set_option maxRecDepth 100000 in
set_option maxHeartbeats 4000000 in
theorem xX11_upLater {G : Gx} (hG : gLy G = LyM) {σ : Sg} {l1 : Int32} {l2 : Int32} {l3 : Int32} {l4 : Int32} {l5 : Int32} {Q : Sg → Prop} (h : wX11_upLater σ l1 l2 l3 l4 l5 Q) : X G mX11_upLater 5 0 [(0, .ref (gad G 0)), (1, .int l1), (2, .int l2), (3, .int l3), (4, .int l4), (5, .int l5)] [] σ (qv Q) := by
  unfold wX11_upLater at h
  refine x_iload dX11_upLater_0 4 rfl ?_
  refine x_case (22 : Int32) (fun c => ?_) (fun c0 => ?_)
  · refine x_tblIn (22 : Int32) 56 c dX11_upLater_2 (by decide) (by decide) rfl (by decide) ?_
    replace h := h.1 c
    refine x_aload_n dX11_upLater_56 rfl 0 rfl ?_
    refine x_dup dX11_upLater_57 rfl ?_
    refine x_getIv hG fg_X11_174 dX11_upLater_58 rfl ?_
    refine x_iconst (v := (1 : Int32)) dX11_upLater_61 rfl ?_
    refine x_isub dX11_upLater_62 ?_
    refine x_putI hG fp_X11_174 dX11_upLater_63 ?_
    refine x_iload dX11_upLater_66 5 rfl ?_
    refine x_iconst (v := (1 : Int32)) dX11_upLater_68 rfl ?_
    refine x_icmp_ne dX11_upLater_69 91 (by decide) (fun c => ?_) (fun c => ?_)
    · replace h := h.1 c
      refine x_aload_n dX11_upLater_72 rfl 0 rfl ?_
      refine x_aload_n dX11_upLater_73 rfl 0 rfl ?_
      refine x_getR (q := 24) hG fg_X11_79 dX11_upLater_74 ?_
      refine x_iload_n dX11_upLater_77 rfl 1 rfl ?_
      refine x_ialdv hG rfl dX11_upLater_78 h.1 (rd_no (by decide) rfl) ?_
      replace h := h.2
      refine x_aload_n dX11_upLater_79 rfl 0 rfl ?_
      refine x_getR (q := 25) hG fg_X11_82 dX11_upLater_80 ?_
      refine x_iload_n dX11_upLater_83 rfl 1 rfl ?_
      refine x_ialdv hG rfl dX11_upLater_84 h.1 (rd_no (by decide) rfl) ?_
      replace h := h.2
      refine x_callVv [_, _] hG mv_X11_value lk_X11_168 rfl rfl rfl ⟨by decide, by decide⟩ rfl (Nat.le_of_ble_eq_true rfl) dX11_upLater_85 (ct_X11_value hG h) (fun σ2 h => ?_)
      refine x_goto dX11_upLater_88 342 (by decide) ?_
      exact x_vret rfl dX11_upLater_342 ⟨rfl, h⟩
    · replace h := h.2 c
      refine x_aload_n dX11_upLater_91 rfl 0 rfl ?_
      refine x_iconst (v := (2 : Int32)) dX11_upLater_92 rfl ?_
      refine x_putI hG fp_X11_122 dX11_upLater_93 ?_
      refine x_aload_n dX11_upLater_96 rfl 0 rfl ?_
      refine x_aload_n dX11_upLater_97 rfl 0 rfl ?_
      refine x_getR (q := 24) hG fg_X11_79 dX11_upLater_98 ?_
      refine x_iload_n dX11_upLater_101 rfl 1 rfl ?_
      refine x_ialdv hG rfl dX11_upLater_102 h.1 (rd_no (by decide) (rd_no (by decide) rfl)) ?_
      replace h := h.2
      refine x_putI hG fp_X11_137 dX11_upLater_103 ?_
      refine x_aload_n dX11_upLater_106 rfl 0 rfl ?_
      refine x_aload_n dX11_upLater_107 rfl 0 rfl ?_
      refine x_getR (q := 25) hG fg_X11_82 dX11_upLater_108 ?_
      refine x_iload_n dX11_upLater_111 rfl 1 rfl ?_
      refine x_ialdv hG rfl dX11_upLater_112 h.1 (rd_no (by decide) (rd_no (by decide) (rd_no (by decide) rfl))) ?_
      replace h := h.2
      refine x_putI hG fp_X11_140 dX11_upLater_113 ?_
      refine x_aload_n dX11_upLater_116 rfl 0 rfl ?_
      refine x_aload_n dX11_upLater_117 rfl 0 rfl ?_
      refine x_getR (q := 29) hG fg_X11_94 dX11_upLater_118 ?_
      refine x_iload_n dX11_upLater_121 rfl 1 rfl ?_
      refine x_ialdv hG rfl dX11_upLater_122 h.1 (rd_no (by decide) (rd_no (by decide) (rd_no (by decide) (rd_no (by decide) rfl)))) ?_
      replace h := h.2
      refine x_putI hG fp_X11_143 dX11_upLater_123 ?_
      refine x_goto dX11_upLater_126 342 (by decide) ?_
      exact x_vret rfl dX11_upLater_342 ⟨rfl, h⟩
  replace h := h.2
  refine x_case (23 : Int32) (fun c => ?_) (fun c1 => ?_)
  · refine x_tblIn (23 : Int32) 129 c dX11_upLater_2 (by decide) (by decide) rfl (by decide) ?_
    replace h := h.1 c
    refine x_iload dX11_upLater_129 5 rfl ?_
    refine x_iconst (v := (1 : Int32)) dX11_upLater_131 rfl ?_
    refine x_icmp_ne dX11_upLater_132 148 (by decide) (fun c => ?_) (fun c => ?_)
    · replace h := h.1 c
      refine x_aload_n dX11_upLater_135 rfl 0 rfl ?_
      refine x_dup dX11_upLater_136 rfl ?_
      refine x_getIv hG fg_X11_174 dX11_upLater_137 rfl ?_
      refine x_iconst (v := (1 : Int32)) dX11_upLater_140 rfl ?_
      refine x_isub dX11_upLater_141 ?_
      refine x_putI hG fp_X11_174 dX11_upLater_142 ?_
      refine x_goto dX11_upLater_145 342 (by decide) ?_
      exact x_vret rfl dX11_upLater_342 ⟨rfl, h⟩
    · replace h := h.2 c
      refine x_aload_n dX11_upLater_148 rfl 0 rfl ?_
      refine x_aload_n dX11_upLater_149 rfl 0 rfl ?_
      refine x_getIv hG fg_X11_125 dX11_upLater_150 rfl ?_
      refine x_iload_n dX11_upLater_153 rfl 2 rfl ?_
      refine x_callVi [_, _] hG mv_X11_isWhole lk_X11_218 rfl rfl rfl ⟨by decide, by decide⟩ rfl (Nat.le_of_ble_eq_true rfl) dX11_upLater_154 (ct_X11_isWhole hG h) (fun r9 σ8 h => ?_)
      refine x_if_eq dX11_upLater_157 197 (by decide) (fun c => ?_) (fun c => ?_)
      · replace h := h.1 c
        refine x_aload_n dX11_upLater_197 rfl 0 rfl ?_
        refine x_dup dX11_upLater_198 rfl ?_
        refine x_getIv hG fg_X11_174 dX11_upLater_199 rfl ?_
        refine x_iconst (v := (1 : Int32)) dX11_upLater_202 rfl ?_
        refine x_isub dX11_upLater_203 ?_
        refine x_putI hG fp_X11_174 dX11_upLater_204 ?_
        refine x_goto dX11_upLater_207 342 (by decide) ?_
        exact x_vret rfl dX11_upLater_342 ⟨rfl, h⟩
      · replace h := h.2 c
        refine x_aload_n dX11_upLater_160 rfl 0 rfl ?_
        refine x_getR (q := 22) hG fg_X11_73 dX11_upLater_161 ?_
        refine x_iload_n dX11_upLater_164 rfl 1 rfl ?_
        refine x_iconst (v := (1 : Int32)) dX11_upLater_165 rfl ?_
        refine x_iast hG rfl dX11_upLater_166 h.1 ?_
        replace h := h.2
        refine x_aload_n dX11_upLater_167 rfl 0 rfl ?_
        refine x_aload_n dX11_upLater_168 rfl 0 rfl ?_
        refine x_getIv hG fg_X11_128 dX11_upLater_169 (rd_no (by decide) rfl) ?_
        refine x_if_eq dX11_upLater_172 184 (by decide) (fun c => ?_) (fun c => ?_)
        · replace h := h.1 c
          refine x_aload_n dX11_upLater_184 rfl 0 rfl ?_
          refine x_getR (q := 4) hG fg_X11_19 dX11_upLater_185 ?_
          refine x_iload_n dX11_upLater_188 rfl 2 rfl ?_
          refine x_ialdv hG rfl dX11_upLater_189 h.1 (rd_no (by decide) rfl) ?_
          replace h := h.2
          exact x_sub [3] rfl (xX11_upLater_190 hG h)
        · replace h := h.2 c
          refine x_aload_n dX11_upLater_175 rfl 0 rfl ?_
          refine x_getR (q := 3) hG fg_X11_16 dX11_upLater_176 ?_
          refine x_iload_n dX11_upLater_179 rfl 2 rfl ?_
          refine x_ialdv hG rfl dX11_upLater_180 h.1 (rd_no (by decide) rfl) ?_
          replace h := h.2
          refine x_goto dX11_upLater_181 190 (by decide) ?_
          exact x_sub [3] rfl (xX11_upLater_190 hG h)
  replace h := h.2
  refine x_case (24 : Int32) (fun c => ?_) (fun c2 => ?_)
  · refine x_tblIn (24 : Int32) 210 c dX11_upLater_2 (by decide) (by decide) rfl (by decide) ?_
    replace h := h.1 c
    refine x_aload_n dX11_upLater_210 rfl 0 rfl ?_
    refine x_iload_n dX11_upLater_211 rfl 1 rfl ?_
    refine x_iload_n dX11_upLater_212 rfl 2 rfl ?_
    refine x_iload_n dX11_upLater_213 rfl 3 rfl ?_
    refine x_iload dX11_upLater_214 5 rfl ?_
    refine x_callVv [_, _, _, _] hG mv_X11_upLoop lk_X11_224 rfl rfl rfl ⟨by decide, by decide⟩ rfl (Nat.le_of_ble_eq_true rfl) dX11_upLater_216 (ct_X11_upLoop hG h) (fun σ12 h => ?_)
    refine x_goto dX11_upLater_219 342 (by decide) ?_
    exact x_vret rfl dX11_upLater_342 ⟨rfl, h⟩
  replace h := h.2
  refine x_case (25 : Int32) (fun c => ?_) (fun c3 => ?_)
  · refine x_tblIn (25 : Int32) 222 c dX11_upLater_2 (by decide) (by decide) rfl (by decide) ?_
    replace h := h.1 c
    refine x_aload_n dX11_upLater_222 rfl 0 rfl ?_
    refine x_iload_n dX11_upLater_223 rfl 1 rfl ?_
    refine x_iload_n dX11_upLater_224 rfl 2 rfl ?_
    refine x_iload dX11_upLater_225 5 rfl ?_
    refine x_callVv [_, _, _] hG mv_X11_upCall lk_X11_227 rfl rfl rfl ⟨by decide, by decide⟩ rfl (Nat.le_of_ble_eq_true rfl) dX11_upLater_227 (ct_X11_upCall hG h) (fun σ13 h => ?_)
    refine x_goto dX11_upLater_230 342 (by decide) ?_
    exact x_vret rfl dX11_upLater_342 ⟨rfl, h⟩
  replace h := h.2
  refine x_case (26 : Int32) (fun c => ?_) (fun c4 => ?_)
  · refine x_tblIn (26 : Int32) 233 c dX11_upLater_2 (by decide) (by decide) rfl (by decide) ?_
    replace h := h.1 c
    refine x_aload_n dX11_upLater_233 rfl 0 rfl ?_
    refine x_dup dX11_upLater_234 rfl ?_
    refine x_getIv hG fg_X11_174 dX11_upLater_235 rfl ?_
    refine x_iconst (v := (1 : Int32)) dX11_upLater_238 rfl ?_
    refine x_isub dX11_upLater_239 ?_
    refine x_putI hG fp_X11_174 dX11_upLater_240 ?_
    refine x_aload_n dX11_upLater_243 rfl 0 rfl ?_
    refine x_aload_n dX11_upLater_244 rfl 0 rfl ?_
    refine x_getIv hG fg_X11_125 dX11_upLater_245 (rd_nj (by decide) rfl) ?_
    refine x_iload_n dX11_upLater_248 rfl 2 rfl ?_
    refine x_callVi [_, _] hG mv_X11_isWhole lk_X11_218 rfl rfl rfl ⟨by decide, by decide⟩ rfl (Nat.le_of_ble_eq_true rfl) dX11_upLater_249 (ct_X11_isWhole hG h) (fun r16 σ15 h => ?_)
    refine x_if_eq dX11_upLater_252 342 (by decide) (fun c => ?_) (fun c => ?_)
    · replace h := h.1 c
      exact x_vret rfl dX11_upLater_342 ⟨rfl, h⟩
    · replace h := h.2 c
      refine x_aload_n dX11_upLater_255 rfl 0 rfl ?_
      refine x_getIv hG fg_X11_230 dX11_upLater_256 rfl ?_
      refine x_bipush (v := (40 : Int32)) dX11_upLater_259 rfl ?_
      refine x_icmp_ge dX11_upLater_261 342 (by decide) (fun c => ?_) (fun c => ?_)
      · replace h := h.1 c
        refine x_aload_n dX11_upLater_264 rfl 0 rfl ?_
        refine x_getR (q := 20) hG fg_X11_67 dX11_upLater_265 ?_
        refine x_aload_n dX11_upLater_268 rfl 0 rfl ?_
        refine x_getIv hG fg_X11_230 dX11_upLater_269 rfl ?_
        refine x_aload_n dX11_upLater_272 rfl 0 rfl ?_
        refine x_getIv hG fg_X11_128 dX11_upLater_273 rfl ?_
        refine x_iast hG rfl dX11_upLater_276 h.1 ?_
        replace h := h.2
        refine x_aload_n dX11_upLater_277 rfl 0 rfl ?_
        refine x_dup dX11_upLater_278 rfl ?_
        refine x_getIv hG fg_X11_230 dX11_upLater_279 (rd_no (by decide) rfl) ?_
        refine x_iconst (v := (1 : Int32)) dX11_upLater_282 rfl ?_
        refine x_iadd dX11_upLater_283 ?_
        refine x_putI hG fp_X11_230 dX11_upLater_284 ?_
        refine x_goto dX11_upLater_287 342 (by decide) ?_
        exact x_vret rfl dX11_upLater_342 ⟨rfl, h⟩
      · replace h := h.2 c
        exact x_vret rfl dX11_upLater_342 ⟨rfl, h⟩
  replace h := h.2
  refine x_case (27 : Int32) (fun c => ?_) (fun c5 => ?_)
  · refine x_tblIn (27 : Int32) 332 c dX11_upLater_2 (by decide) (by decide) rfl (by decide) ?_
    replace h := h.1 c
    exact x_sub [0] rfl (xX11_upLater_332 hG h)
  replace h := h.2
  refine x_case (28 : Int32) (fun c => ?_) (fun c6 => ?_)
  · refine x_tblIn (28 : Int32) 290 c dX11_upLater_2 (by decide) (by decide) rfl (by decide) ?_
    replace h := h.1 c
    refine x_aload_n dX11_upLater_290 rfl 0 rfl ?_
    refine x_iload_n dX11_upLater_291 rfl 1 rfl ?_
    refine x_iload_n dX11_upLater_292 rfl 2 rfl ?_
    refine x_iload dX11_upLater_293 5 rfl ?_
    refine x_callVv [_, _, _] hG mv_X11_upWork lk_X11_233 rfl rfl rfl ⟨by decide, by decide⟩ rfl (Nat.le_of_ble_eq_true rfl) dX11_upLater_295 (ct_X11_upWork hG h) (fun σ19 h => ?_)
    refine x_goto dX11_upLater_298 342 (by decide) ?_
    exact x_vret rfl dX11_upLater_342 ⟨rfl, h⟩
  replace h := h.2
  refine x_case (29 : Int32) (fun c => ?_) (fun c7 => ?_)
  · refine x_tblIn (29 : Int32) 332 c dX11_upLater_2 (by decide) (by decide) rfl (by decide) ?_
    replace h := h.1 c
    exact x_sub [0] rfl (xX11_upLater_332 hG h)
  replace h := h.2
  refine x_case (30 : Int32) (fun c => ?_) (fun c8 => ?_)
  · refine x_tblIn (30 : Int32) 332 c dX11_upLater_2 (by decide) (by decide) rfl (by decide) ?_
    replace h := h.1 c
    exact x_sub [0] rfl (xX11_upLater_332 hG h)
  replace h := h.2
  refine x_case (31 : Int32) (fun c => ?_) (fun c9 => ?_)
  · refine x_tblIn (31 : Int32) 301 c dX11_upLater_2 (by decide) (by decide) rfl (by decide) ?_
    replace h := h.1 c
    refine x_aload_n dX11_upLater_301 rfl 0 rfl ?_
    refine x_dup dX11_upLater_302 rfl ?_
    refine x_getIv hG fg_X11_174 dX11_upLater_303 rfl ?_
    refine x_iconst (v := (1 : Int32)) dX11_upLater_306 rfl ?_
    refine x_isub dX11_upLater_307 ?_
    refine x_putI hG fp_X11_174 dX11_upLater_308 ?_
    refine x_aload_n dX11_upLater_311 rfl 0 rfl ?_
    refine x_aload_n dX11_upLater_312 rfl 0 rfl ?_
    refine x_getR (q := 2) hG fg_X11_13 dX11_upLater_313 ?_
    refine x_iload_n dX11_upLater_316 rfl 2 rfl ?_
    refine x_ialdv hG rfl dX11_upLater_317 h.1 (rd_no (by decide) rfl) ?_
    replace h := h.2
    refine x_aload_n dX11_upLater_318 rfl 0 rfl ?_
    refine x_getIv hG fg_X11_125 dX11_upLater_319 (rd_nj (by decide) rfl) ?_
    refine x_aload_n dX11_upLater_322 rfl 0 rfl ?_
    refine x_getIv hG fg_X11_128 dX11_upLater_323 (rd_nj (by decide) rfl) ?_
    refine x_callVv [_, _, _] hG mv_X11_write lk_X11_212 rfl rfl rfl ⟨by decide, by decide⟩ rfl (Nat.le_of_ble_eq_true rfl) dX11_upLater_326 (ct_X11_write hG h) (fun σ21 h => ?_)
    refine x_goto dX11_upLater_329 342 (by decide) ?_
    exact x_vret rfl dX11_upLater_342 ⟨rfl, h⟩
  replace h := h.2
  replace h := h c0 c1 c2 c3 c4 c5 c6 c7 c8 c9
  refine x_tblOut [22, 23, 24, 25, 26, 27, 28, 29, 30, 31] 10 332 (by decide) (by decide) (List.forall_mem_cons.mpr ⟨c0, List.forall_mem_cons.mpr ⟨c1, List.forall_mem_cons.mpr ⟨c2, List.forall_mem_cons.mpr ⟨c3, List.forall_mem_cons.mpr ⟨c4, List.forall_mem_cons.mpr ⟨c5, List.forall_mem_cons.mpr ⟨c6, List.forall_mem_cons.mpr ⟨c7, List.forall_mem_cons.mpr ⟨c8, List.forall_mem_cons.mpr ⟨c9, fun _ h => absurd h List.not_mem_nil⟩⟩⟩⟩⟩⟩⟩⟩⟩⟩) dX11_upLater_2 (by decide) ?_
  exact x_sub [0] rfl (xX11_upLater_332 hG h)
theorem ct_X11_upLater {G : Gx} (hG : gLy G = LyM) {σ : Sg} {l1 : Int32} {l2 : Int32} {l3 : Int32} {l4 : Int32} {l5 : Int32} {Q : Sg → Prop} (h : wX11_upLater σ l1 l2 l3 l4 l5 Q) : CT G mX11_upLater 5 [.ref (gad G 0), .int l1, .int l2, .int l3, .int l4, .int l5] σ (qv Q) := ct_of rfl (Nat.le_of_ble_eq_true rfl) rfl (xX11_upLater hG h)
/-! X11_upOf upOf -/
def wX11_upOf_180 (σ : Sg) (l1 : Int32) (l2 : Int32) (l4 : Int32) (Q : Sg → Prop) : Prop :=
  let σ1 := wI σ 0 26 ((sI σ 0 26) - (1 : Int32))
  vp_in l1 220 ∧
  vp_in l1 220 ∧
  wX11_reckon σ1 l2 l4 (sI σ 24 (l1).toNatClampNeg) (sI σ 25 (l1).toNatClampNeg) (fun σ2 =>
  Q σ2
  )
set_option maxRecDepth 100000 in
set_option maxHeartbeats 4000000 in
theorem xX11_upOf_180 {G : Gx} (hG : gLy G = LyM) {σ : Sg} {l1 : Int32} {l2 : Int32} {l4 : Int32} {Q : Sg → Prop} (h : wX11_upOf_180 σ l1 l2 l4 Q) : X G mX11_upOf 6 180 [(0, .ref (gad G 0)), (1, .int l1), (2, .int l2), (4, .int l4)] [] σ (qv Q) := by
  unfold wX11_upOf_180 at h
  refine x_aload_n dX11_upOf_180 rfl 0 rfl ?_
  refine x_dup dX11_upOf_181 rfl ?_
  refine x_getIv hG fg_X11_174 dX11_upOf_182 rfl ?_
  refine x_iconst (v := (1 : Int32)) dX11_upOf_185 rfl ?_
  refine x_isub dX11_upOf_186 ?_
  refine x_putI hG fp_X11_174 dX11_upOf_187 ?_
  refine x_aload_n dX11_upOf_190 rfl 0 rfl ?_
  refine x_iload_n dX11_upOf_191 rfl 2 rfl ?_
  refine x_iload dX11_upOf_192 3 rfl ?_
  refine x_aload_n dX11_upOf_194 rfl 0 rfl ?_
  refine x_getR (q := 24) hG fg_X11_79 dX11_upOf_195 ?_
  refine x_iload_n dX11_upOf_198 rfl 1 rfl ?_
  refine x_ialdv hG rfl dX11_upOf_199 h.1 (rd_no (by decide) rfl) ?_
  replace h := h.2
  refine x_aload_n dX11_upOf_200 rfl 0 rfl ?_
  refine x_getR (q := 25) hG fg_X11_82 dX11_upOf_201 ?_
  refine x_iload_n dX11_upOf_204 rfl 1 rfl ?_
  refine x_ialdv hG rfl dX11_upOf_205 h.1 (rd_no (by decide) rfl) ?_
  replace h := h.2
  refine x_callVv [_, _, _, _] hG mv_X11_reckon lk_X11_195 rfl rfl rfl ⟨by decide, by decide⟩ rfl (Nat.le_of_ble_eq_true rfl) dX11_upOf_206 (ct_X11_reckon hG h) (fun σ2 h => ?_)
  refine x_goto dX11_upOf_209 518 (by decide) ?_
  exact x_vret rfl dX11_upOf_518 ⟨rfl, h⟩
def wX11_upOf_212 (σ : Sg) (l2 : Int32) (l4 : Int32) (Q : Sg → Prop) : Prop :=
  let σ1 := wI σ 0 26 ((sI σ 0 26) - (1 : Int32))
  wX11_makeRow σ1 l2 l4 (fun σ2 =>
  Q σ2
  )
set_option maxRecDepth 100000 in
set_option maxHeartbeats 4000000 in
theorem xX11_upOf_212 {G : Gx} (hG : gLy G = LyM) {σ : Sg} {l2 : Int32} {l4 : Int32} {Q : Sg → Prop} (h : wX11_upOf_212 σ l2 l4 Q) : X G mX11_upOf 6 212 [(0, .ref (gad G 0)), (2, .int l2), (4, .int l4)] [] σ (qv Q) := by
  unfold wX11_upOf_212 at h
  refine x_aload_n dX11_upOf_212 rfl 0 rfl ?_
  refine x_dup dX11_upOf_213 rfl ?_
  refine x_getIv hG fg_X11_174 dX11_upOf_214 rfl ?_
  refine x_iconst (v := (1 : Int32)) dX11_upOf_217 rfl ?_
  refine x_isub dX11_upOf_218 ?_
  refine x_putI hG fp_X11_174 dX11_upOf_219 ?_
  refine x_aload_n dX11_upOf_222 rfl 0 rfl ?_
  refine x_iload_n dX11_upOf_223 rfl 1 rfl ?_
  refine x_iload dX11_upOf_224 2 rfl ?_
  refine x_callVv [_, _] hG mv_X11_makeRow lk_X11_199 rfl rfl rfl ⟨by decide, by decide⟩ rfl (Nat.le_of_ble_eq_true rfl) dX11_upOf_226 (ct_X11_makeRow hG h) (fun σ2 h => ?_)
  refine x_goto dX11_upOf_229 518 (by decide) ?_
  exact x_vret rfl dX11_upOf_518 ⟨rfl, h⟩
def wX11_upOf_291 (σ : Sg) (l6 : Int32) (s1 : Int32) (Q : Sg → Prop) : Prop :=
  wX11_value σ s1 l6 (fun σ1 =>
  Q σ1
  )
set_option maxRecDepth 100000 in
set_option maxHeartbeats 4000000 in
theorem xX11_upOf_291 {G : Gx} (hG : gLy G = LyM) {σ : Sg} {l6 : Int32} {s1 : Int32} {Q : Sg → Prop} (h : wX11_upOf_291 σ l6 s1 Q) : X G mX11_upOf 6 291 [(6, .int l6)] [.int s1, .ref (gad G 0)] σ (qv Q) := by
  unfold wX11_upOf_291 at h
  refine x_iload dX11_upOf_291 0 rfl ?_
  refine x_callVv [_, _] hG mv_X11_value lk_X11_168 rfl rfl rfl ⟨by decide, by decide⟩ rfl (Nat.le_of_ble_eq_true rfl) dX11_upOf_293 (ct_X11_value hG h) (fun σ1 h => ?_)
  refine x_goto dX11_upOf_296 518 (by decide) ?_
  exact x_vret rfl dX11_upOf_518 ⟨rfl, h⟩
def wX11_upOf_232 (σ : Sg) (l4 : Int32) (Q : Sg → Prop) : Prop :=
  let σ1 := wI σ 0 26 ((sI σ 0 26) - (1 : Int32))
  wX11_newThing σ1 (1 : Int32) (fun r3 σ2 =>
  vp_in ((16 : Int32) * r3) 3520 ∧
  let σ4 := wI σ2 6 (((16 : Int32) * r3)).toNatClampNeg (sI σ2 0 39)
  vp_in ((16 : Int32) * r3) 3520 ∧
  let σ5 := wI σ4 7 (((16 : Int32) * r3)).toNatClampNeg (sI σ2 0 40)
  (l4 = (13 : Int32) → (
    wX11_upOf_291 σ5 r3 (5 : Int32) Q
  )) ∧ (¬ l4 = (13 : Int32) → (
    wX11_upOf_291 σ5 r3 (6 : Int32) Q
  ))
  )
set_option maxRecDepth 100000 in
set_option maxHeartbeats 4000000 in
theorem xX11_upOf_232 {G : Gx} (hG : gLy G = LyM) {σ : Sg} {l4 : Int32} {Q : Sg → Prop} (h : wX11_upOf_232 σ l4 Q) : X G mX11_upOf 6 232 [(0, .ref (gad G 0)), (4, .int l4)] [] σ (qv Q) := by
  unfold wX11_upOf_232 at h
  refine x_aload_n dX11_upOf_232 rfl 0 rfl ?_
  refine x_dup dX11_upOf_233 rfl ?_
  refine x_getIv hG fg_X11_174 dX11_upOf_234 rfl ?_
  refine x_iconst (v := (1 : Int32)) dX11_upOf_237 rfl ?_
  refine x_isub dX11_upOf_238 ?_
  refine x_putI hG fp_X11_174 dX11_upOf_239 ?_
  refine x_aload_n dX11_upOf_242 rfl 0 rfl ?_
  refine x_iconst (v := (1 : Int32)) dX11_upOf_243 rfl ?_
  refine x_callVi [_] hG mv_X11_newThing lk_X11_171 rfl rfl rfl ⟨by decide, by decide⟩ rfl (Nat.le_of_ble_eq_true rfl) dX11_upOf_244 (ct_X11_newThing hG h) (fun r3 σ2 h => ?_)
  refine x_istore dX11_upOf_247 (Nat.le_of_ble_eq_true rfl) (lv' := [(6, _), (0, _), (4, _)]) rfl ?_
  refine x_aload_n dX11_upOf_249 rfl 1 rfl ?_
  refine x_getR (q := 6) hG fg_X11_25 dX11_upOf_250 ?_
  refine x_bipush (v := (16 : Int32)) dX11_upOf_253 rfl ?_
  refine x_iload dX11_upOf_255 0 rfl ?_
  refine x_imul dX11_upOf_257 ?_
  refine x_aload_n dX11_upOf_258 rfl 1 rfl ?_
  refine x_getIv hG fg_X11_125 dX11_upOf_259 rfl ?_
  refine x_iast hG rfl dX11_upOf_262 h.1 ?_
  replace h := h.2
  refine x_aload_n dX11_upOf_263 rfl 1 rfl ?_
  refine x_getR (q := 7) hG fg_X11_28 dX11_upOf_264 ?_
  refine x_bipush (v := (16 : Int32)) dX11_upOf_267 rfl ?_
  refine x_iload dX11_upOf_269 0 rfl ?_
  refine x_imul dX11_upOf_271 ?_
  refine x_aload_n dX11_upOf_272 rfl 1 rfl ?_
  refine x_getIv hG fg_X11_128 dX11_upOf_273 (rd_no (by decide) rfl) ?_
  refine x_iast hG rfl dX11_upOf_276 h.1 ?_
  replace h := h.2
  refine x_aload_n dX11_upOf_277 rfl 1 rfl ?_
  refine x_iload dX11_upOf_278 2 rfl ?_
  refine x_bipush (v := (13 : Int32)) dX11_upOf_280 rfl ?_
  refine x_icmp_ne dX11_upOf_282 289 (by decide) (fun c => ?_) (fun c => ?_)
  · replace h := h.1 c
    refine x_iconst (v := (5 : Int32)) dX11_upOf_285 rfl ?_
    refine x_goto dX11_upOf_286 291 (by decide) ?_
    exact x_sub [0] rfl (xX11_upOf_291 hG h)
  · replace h := h.2 c
    refine x_bipush (v := (6 : Int32)) dX11_upOf_289 rfl ?_
    exact x_sub [0] rfl (xX11_upOf_291 hG h)
def wX11_upOf (σ : Sg) (l1 : Int32) (l2 : Int32) (l3 : Int32) (l4 : Int32) (l5 : Int32) (Q : Sg → Prop) : Prop :=
  (l4 = 3 → (
    let σ1 := wI σ 0 26 ((sI σ 0 26) - (1 : Int32))
    Q σ1
  )) ∧
  (l4 = 4 → (
    (l5 = 0 → (
      vp_in l2 60 ∧
      vp_in (((8 : Int32) * l3) + (sI σ 3 (l2).toNatClampNeg)) 1760 ∧
      let σ2 := wI σ 13 ((((8 : Int32) * l3) + (sI σ 3 (l2).toNatClampNeg))).toNatClampNeg (sI σ 0 39)
      vp_in l2 60 ∧
      vp_in (((8 : Int32) * l3) + (sI σ 3 (l2).toNatClampNeg)) 1760 ∧
      let σ3 := wI σ2 14 ((((8 : Int32) * l3) + (sI σ 3 (l2).toNatClampNeg))).toNatClampNeg (sI σ 0 40)
      vp_in l1 220 ∧
      let σ4 := wI σ3 22 (l1).toNatClampNeg (1 : Int32)
      vp_in l2 60 ∧
      wX11_start σ4 (sI σ 4 (l2).toNatClampNeg) l3 (fun σ5 =>
      Q σ5
      )
    )) ∧ (¬ l5 = 0 → (
      let σ6 := wI σ 0 26 ((sI σ 0 26) - (1 : Int32))
      Q σ6
    ))
  )) ∧
  (l4 = 5 → (
    wX11_upOf_180 σ l1 l2 l4 Q
  )) ∧
  (l4 = 6 → (
    wX11_upOf_180 σ l1 l2 l4 Q
  )) ∧
  (l4 = 7 → (
    wX11_upOf_180 σ l1 l2 l4 Q
  )) ∧
  (l4 = 8 → (
    wX11_upOf_180 σ l1 l2 l4 Q
  )) ∧
  (l4 = 9 → (
    wX11_upOf_180 σ l1 l2 l4 Q
  )) ∧
  (l4 = 10 → (
    wX11_upOf_212 σ l2 l4 Q
  )) ∧
  (l4 = 11 → (
    wX11_upOf_212 σ l2 l4 Q
  )) ∧
  (l4 = 12 → (
    wX11_upOf_212 σ l2 l4 Q
  )) ∧
  (l4 = 13 → (
    wX11_upOf_232 σ l4 Q
  )) ∧
  (l4 = 14 → (
    wX11_upOf_232 σ l4 Q
  )) ∧
  (l4 = 15 → (
    let σ7 := wI σ 0 26 ((sI σ 0 26) - (1 : Int32))
    vp_in l1 220 ∧
    vp_in l1 220 ∧
    wX11_readPlace σ7 l2 (sI σ 24 (l1).toNatClampNeg) (sI σ 25 (l1).toNatClampNeg) (fun σ8 =>
    Q σ8
    )
  )) ∧
  (l4 = 16 → (
    let σ9 := wI σ 0 26 ((sI σ 0 26) - (1 : Int32))
    wX11_writePlace σ9 l2 l1 (fun σ10 =>
    Q σ10
    )
  )) ∧
  (l4 = 17 → (
    let σ11 := wI σ 0 26 ((sI σ 0 26) - (1 : Int32))
    wX11_isLink σ11 (sI σ 0 39) l2 (fun r13 σ12 =>
    (r13 = 0 → (
      Q σ12
    )) ∧ (¬ r13 = 0 → (
      vp_in ((16 : Int32) * (sI σ12 0 40)) 3520 ∧
      vp_in ((16 : Int32) * (sI σ12 0 40)) 3520 ∧
      wX11_value σ12 (sI σ12 6 (((16 : Int32) * (sI σ12 0 40))).toNatClampNeg) (sI σ12 7 (((16 : Int32) * (sI σ12 0 40))).toNatClampNeg) (fun σ14 =>
      Q σ14
      )
    ))
    )
  )) ∧
  (l4 = 18 → (
    let σ15 := wI σ 0 26 ((sI σ 0 26) - (1 : Int32))
    vp_in l1 220 ∧
    wX11_isLink σ15 (sI σ 24 (l1).toNatClampNeg) l2 (fun r17 σ16 =>
    (r17 = 0 → (
      Q σ16
    )) ∧ (¬ r17 = 0 → (
      vp_in l1 220 ∧
      wX11_write σ16 ((8 : Int32) + ((16 : Int32) * (sI σ16 25 (l1).toNatClampNeg))) (sI σ16 0 39) (sI σ16 0 40) (fun σ18 =>
      Q σ18
      )
    ))
    )
  )) ∧
  (l4 = 19 → (
    let σ19 := wI σ 0 26 ((sI σ 0 26) - (1 : Int32))
    wX11_copyPlaces σ19 l2 l1 (fun σ20 =>
    Q σ20
    )
  )) ∧
  (l4 = 20 → (
    let σ21 := wI σ 0 26 ((sI σ 0 26) - (1 : Int32))
    wX11_isWhole σ21 (sI σ 0 39) l2 (fun r23 σ22 =>
    (r23 = 0 → (
      Q σ22
    )) ∧ (¬ r23 = 0 → (
      wX11_fail σ22 (7 : Int32) (sI σ22 0 40) l2 (fun σ24 =>
      Q σ24
      )
    ))
    )
  )) ∧
  (¬ l4 = 3 → ¬ l4 = 4 → ¬ l4 = 5 → ¬ l4 = 6 → ¬ l4 = 7 → ¬ l4 = 8 → ¬ l4 = 9 → ¬ l4 = 10 → ¬ l4 = 11 → ¬ l4 = 12 → ¬ l4 = 13 → ¬ l4 = 14 → ¬ l4 = 15 → ¬ l4 = 16 → ¬ l4 = 17 → ¬ l4 = 18 → ¬ l4 = 19 → ¬ l4 = 20 → (
    wX11_upLater σ l1 l2 l3 l4 l5 (fun σ25 =>
    Q σ25
    )
  ))
set_option maxRecDepth 100000 in
set_option maxHeartbeats 4000000 in
theorem xX11_upOf {G : Gx} (hG : gLy G = LyM) {σ : Sg} {l1 : Int32} {l2 : Int32} {l3 : Int32} {l4 : Int32} {l5 : Int32} {Q : Sg → Prop} (h : wX11_upOf σ l1 l2 l3 l4 l5 Q) : X G mX11_upOf 6 0 [(0, .ref (gad G 0)), (1, .int l1), (2, .int l2), (3, .int l3), (4, .int l4), (5, .int l5)] [] σ (qv Q) := by
  unfold wX11_upOf at h
  refine x_iload dX11_upOf_0 4 rfl ?_
  refine x_case (3 : Int32) (fun c => ?_) (fun c0 => ?_)
  · refine x_tblIn (3 : Int32) 88 c dX11_upOf_2 (by decide) (by decide) rfl (by decide) ?_
    replace h := h.1 c
    refine x_aload_n dX11_upOf_88 rfl 0 rfl ?_
    refine x_dup dX11_upOf_89 rfl ?_
    refine x_getIv hG fg_X11_174 dX11_upOf_90 rfl ?_
    refine x_iconst (v := (1 : Int32)) dX11_upOf_93 rfl ?_
    refine x_isub dX11_upOf_94 ?_
    refine x_putI hG fp_X11_174 dX11_upOf_95 ?_
    refine x_goto dX11_upOf_98 518 (by decide) ?_
    exact x_vret rfl dX11_upOf_518 ⟨rfl, h⟩
  replace h := h.2
  refine x_case (4 : Int32) (fun c => ?_) (fun c1 => ?_)
  · refine x_tblIn (4 : Int32) 101 c dX11_upOf_2 (by decide) (by decide) rfl (by decide) ?_
    replace h := h.1 c
    refine x_iload dX11_upOf_101 5 rfl ?_
    refine x_if_ne dX11_upOf_103 167 (by decide) (fun c => ?_) (fun c => ?_)
    · replace h := h.1 c
      refine x_aload_n dX11_upOf_106 rfl 0 rfl ?_
      refine x_getR (q := 13) hG fg_X11_46 dX11_upOf_107 ?_
      refine x_bipush (v := (8 : Int32)) dX11_upOf_110 rfl ?_
      refine x_iload_n dX11_upOf_112 rfl 3 rfl ?_
      refine x_imul dX11_upOf_113 ?_
      refine x_aload_n dX11_upOf_114 rfl 0 rfl ?_
      refine x_getR (q := 3) hG fg_X11_16 dX11_upOf_115 ?_
      refine x_iload_n dX11_upOf_118 rfl 2 rfl ?_
      refine x_ialdv hG rfl dX11_upOf_119 h.1 rfl ?_
      replace h := h.2
      refine x_iadd dX11_upOf_120 ?_
      refine x_aload_n dX11_upOf_121 rfl 0 rfl ?_
      refine x_getIv hG fg_X11_125 dX11_upOf_122 rfl ?_
      refine x_iast hG rfl dX11_upOf_125 h.1 ?_
      replace h := h.2
      refine x_aload_n dX11_upOf_126 rfl 0 rfl ?_
      refine x_getR (q := 14) hG fg_X11_49 dX11_upOf_127 ?_
      refine x_bipush (v := (8 : Int32)) dX11_upOf_130 rfl ?_
      refine x_iload_n dX11_upOf_132 rfl 3 rfl ?_
      refine x_imul dX11_upOf_133 ?_
      refine x_aload_n dX11_upOf_134 rfl 0 rfl ?_
      refine x_getR (q := 3) hG fg_X11_16 dX11_upOf_135 ?_
      refine x_iload_n dX11_upOf_138 rfl 2 rfl ?_
      refine x_ialdv hG rfl dX11_upOf_139 h.1 (rd_no (by decide) rfl) ?_
      replace h := h.2
      refine x_iadd dX11_upOf_140 ?_
      refine x_aload_n dX11_upOf_141 rfl 0 rfl ?_
      refine x_getIv hG fg_X11_128 dX11_upOf_142 (rd_no (by decide) rfl) ?_
      refine x_iast hG rfl dX11_upOf_145 h.1 ?_
      replace h := h.2
      refine x_aload_n dX11_upOf_146 rfl 0 rfl ?_
      refine x_getR (q := 22) hG fg_X11_73 dX11_upOf_147 ?_
      refine x_iload_n dX11_upOf_150 rfl 1 rfl ?_
      refine x_iconst (v := (1 : Int32)) dX11_upOf_151 rfl ?_
      refine x_iast hG rfl dX11_upOf_152 h.1 ?_
      replace h := h.2
      refine x_aload_n dX11_upOf_153 rfl 0 rfl ?_
      refine x_aload_n dX11_upOf_154 rfl 0 rfl ?_
      refine x_getR (q := 4) hG fg_X11_19 dX11_upOf_155 ?_
      refine x_iload_n dX11_upOf_158 rfl 2 rfl ?_
      refine x_ialdv hG rfl dX11_upOf_159 h.1 (rd_no (by decide) (rd_no (by decide) (rd_no (by decide) rfl))) ?_
      replace h := h.2
      refine x_iload_n dX11_upOf_160 rfl 3 rfl ?_
      refine x_callVv [_, _] hG mv_X11_start lk_X11_177 rfl rfl rfl ⟨by decide, by decide⟩ rfl (Nat.le_of_ble_eq_true rfl) dX11_upOf_161 (ct_X11_start hG h) (fun σ5 h => ?_)
      refine x_goto dX11_upOf_164 518 (by decide) ?_
      exact x_vret rfl dX11_upOf_518 ⟨rfl, h⟩
    · replace h := h.2 c
      refine x_aload_n dX11_upOf_167 rfl 0 rfl ?_
      refine x_dup dX11_upOf_168 rfl ?_
      refine x_getIv hG fg_X11_174 dX11_upOf_169 rfl ?_
      refine x_iconst (v := (1 : Int32)) dX11_upOf_172 rfl ?_
      refine x_isub dX11_upOf_173 ?_
      refine x_putI hG fp_X11_174 dX11_upOf_174 ?_
      refine x_goto dX11_upOf_177 518 (by decide) ?_
      exact x_vret rfl dX11_upOf_518 ⟨rfl, h⟩
  replace h := h.2
  refine x_case (5 : Int32) (fun c => ?_) (fun c2 => ?_)
  · refine x_tblIn (5 : Int32) 180 c dX11_upOf_2 (by decide) (by decide) rfl (by decide) ?_
    replace h := h.1 c
    exact x_sub [0, 1, 2, 4] rfl (xX11_upOf_180 hG h)
  replace h := h.2
  refine x_case (6 : Int32) (fun c => ?_) (fun c3 => ?_)
  · refine x_tblIn (6 : Int32) 180 c dX11_upOf_2 (by decide) (by decide) rfl (by decide) ?_
    replace h := h.1 c
    exact x_sub [0, 1, 2, 4] rfl (xX11_upOf_180 hG h)
  replace h := h.2
  refine x_case (7 : Int32) (fun c => ?_) (fun c4 => ?_)
  · refine x_tblIn (7 : Int32) 180 c dX11_upOf_2 (by decide) (by decide) rfl (by decide) ?_
    replace h := h.1 c
    exact x_sub [0, 1, 2, 4] rfl (xX11_upOf_180 hG h)
  replace h := h.2
  refine x_case (8 : Int32) (fun c => ?_) (fun c5 => ?_)
  · refine x_tblIn (8 : Int32) 180 c dX11_upOf_2 (by decide) (by decide) rfl (by decide) ?_
    replace h := h.1 c
    exact x_sub [0, 1, 2, 4] rfl (xX11_upOf_180 hG h)
  replace h := h.2
  refine x_case (9 : Int32) (fun c => ?_) (fun c6 => ?_)
  · refine x_tblIn (9 : Int32) 180 c dX11_upOf_2 (by decide) (by decide) rfl (by decide) ?_
    replace h := h.1 c
    exact x_sub [0, 1, 2, 4] rfl (xX11_upOf_180 hG h)
  replace h := h.2
  refine x_case (10 : Int32) (fun c => ?_) (fun c7 => ?_)
  · refine x_tblIn (10 : Int32) 212 c dX11_upOf_2 (by decide) (by decide) rfl (by decide) ?_
    replace h := h.1 c
    exact x_sub [0, 2, 4] rfl (xX11_upOf_212 hG h)
  replace h := h.2
  refine x_case (11 : Int32) (fun c => ?_) (fun c8 => ?_)
  · refine x_tblIn (11 : Int32) 212 c dX11_upOf_2 (by decide) (by decide) rfl (by decide) ?_
    replace h := h.1 c
    exact x_sub [0, 2, 4] rfl (xX11_upOf_212 hG h)
  replace h := h.2
  refine x_case (12 : Int32) (fun c => ?_) (fun c9 => ?_)
  · refine x_tblIn (12 : Int32) 212 c dX11_upOf_2 (by decide) (by decide) rfl (by decide) ?_
    replace h := h.1 c
    exact x_sub [0, 2, 4] rfl (xX11_upOf_212 hG h)
  replace h := h.2
  refine x_case (13 : Int32) (fun c => ?_) (fun c10 => ?_)
  · refine x_tblIn (13 : Int32) 232 c dX11_upOf_2 (by decide) (by decide) rfl (by decide) ?_
    replace h := h.1 c
    exact x_sub [0, 4] rfl (xX11_upOf_232 hG h)
  replace h := h.2
  refine x_case (14 : Int32) (fun c => ?_) (fun c11 => ?_)
  · refine x_tblIn (14 : Int32) 232 c dX11_upOf_2 (by decide) (by decide) rfl (by decide) ?_
    replace h := h.1 c
    exact x_sub [0, 4] rfl (xX11_upOf_232 hG h)
  replace h := h.2
  refine x_case (15 : Int32) (fun c => ?_) (fun c12 => ?_)
  · refine x_tblIn (15 : Int32) 299 c dX11_upOf_2 (by decide) (by decide) rfl (by decide) ?_
    replace h := h.1 c
    refine x_aload_n dX11_upOf_299 rfl 0 rfl ?_
    refine x_dup dX11_upOf_300 rfl ?_
    refine x_getIv hG fg_X11_174 dX11_upOf_301 rfl ?_
    refine x_iconst (v := (1 : Int32)) dX11_upOf_304 rfl ?_
    refine x_isub dX11_upOf_305 ?_
    refine x_putI hG fp_X11_174 dX11_upOf_306 ?_
    refine x_aload_n dX11_upOf_309 rfl 0 rfl ?_
    refine x_iload_n dX11_upOf_310 rfl 2 rfl ?_
    refine x_aload_n dX11_upOf_311 rfl 0 rfl ?_
    refine x_getR (q := 24) hG fg_X11_79 dX11_upOf_312 ?_
    refine x_iload_n dX11_upOf_315 rfl 1 rfl ?_
    refine x_ialdv hG rfl dX11_upOf_316 h.1 (rd_no (by decide) rfl) ?_
    replace h := h.2
    refine x_aload_n dX11_upOf_317 rfl 0 rfl ?_
    refine x_getR (q := 25) hG fg_X11_82 dX11_upOf_318 ?_
    refine x_iload_n dX11_upOf_321 rfl 1 rfl ?_
    refine x_ialdv hG rfl dX11_upOf_322 h.1 (rd_no (by decide) rfl) ?_
    replace h := h.2
    refine x_callVv [_, _, _] hG mv_X11_readPlace lk_X11_202 rfl rfl rfl ⟨by decide, by decide⟩ rfl (Nat.le_of_ble_eq_true rfl) dX11_upOf_323 (ct_X11_readPlace hG h) (fun σ8 h => ?_)
    refine x_goto dX11_upOf_326 518 (by decide) ?_
    exact x_vret rfl dX11_upOf_518 ⟨rfl, h⟩
  replace h := h.2
  refine x_case (16 : Int32) (fun c => ?_) (fun c13 => ?_)
  · refine x_tblIn (16 : Int32) 329 c dX11_upOf_2 (by decide) (by decide) rfl (by decide) ?_
    replace h := h.1 c
    refine x_aload_n dX11_upOf_329 rfl 0 rfl ?_
    refine x_dup dX11_upOf_330 rfl ?_
    refine x_getIv hG fg_X11_174 dX11_upOf_331 rfl ?_
    refine x_iconst (v := (1 : Int32)) dX11_upOf_334 rfl ?_
    refine x_isub dX11_upOf_335 ?_
    refine x_putI hG fp_X11_174 dX11_upOf_336 ?_
    refine x_aload_n dX11_upOf_339 rfl 0 rfl ?_
    refine x_iload_n dX11_upOf_340 rfl 2 rfl ?_
    refine x_iload_n dX11_upOf_341 rfl 1 rfl ?_
    refine x_callVv [_, _] hG mv_X11_writePlace lk_X11_205 rfl rfl rfl ⟨by decide, by decide⟩ rfl (Nat.le_of_ble_eq_true rfl) dX11_upOf_342 (ct_X11_writePlace hG h) (fun σ10 h => ?_)
    refine x_goto dX11_upOf_345 518 (by decide) ?_
    exact x_vret rfl dX11_upOf_518 ⟨rfl, h⟩
  replace h := h.2
  refine x_case (17 : Int32) (fun c => ?_) (fun c14 => ?_)
  · refine x_tblIn (17 : Int32) 348 c dX11_upOf_2 (by decide) (by decide) rfl (by decide) ?_
    replace h := h.1 c
    refine x_aload_n dX11_upOf_348 rfl 0 rfl ?_
    refine x_dup dX11_upOf_349 rfl ?_
    refine x_getIv hG fg_X11_174 dX11_upOf_350 rfl ?_
    refine x_iconst (v := (1 : Int32)) dX11_upOf_353 rfl ?_
    refine x_isub dX11_upOf_354 ?_
    refine x_putI hG fp_X11_174 dX11_upOf_355 ?_
    refine x_aload_n dX11_upOf_358 rfl 0 rfl ?_
    refine x_aload_n dX11_upOf_359 rfl 0 rfl ?_
    refine x_getIv hG fg_X11_125 dX11_upOf_360 (rd_nj (by decide) rfl) ?_
    refine x_iload_n dX11_upOf_363 rfl 2 rfl ?_
    refine x_callVi [_, _] hG mv_X11_isLink lk_X11_208 rfl rfl rfl ⟨by decide, by decide⟩ rfl (Nat.le_of_ble_eq_true rfl) dX11_upOf_364 (ct_X11_isLink hG h) (fun r13 σ12 h => ?_)
    refine x_if_eq dX11_upOf_367 518 (by decide) (fun c => ?_) (fun c => ?_)
    · replace h := h.1 c
      exact x_vret rfl dX11_upOf_518 ⟨rfl, h⟩
    · replace h := h.2 c
      refine x_aload_n dX11_upOf_370 rfl 0 rfl ?_
      refine x_aload_n dX11_upOf_371 rfl 0 rfl ?_
      refine x_getR (q := 6) hG fg_X11_25 dX11_upOf_372 ?_
      refine x_bipush (v := (16 : Int32)) dX11_upOf_375 rfl ?_
      refine x_aload_n dX11_upOf_377 rfl 0 rfl ?_
      refine x_getIv hG fg_X11_128 dX11_upOf_378 rfl ?_
      refine x_imul dX11_upOf_381 ?_
      refine x_ialdv hG rfl dX11_upOf_382 h.1 rfl ?_
      replace h := h.2
      refine x_aload_n dX11_upOf_383 rfl 0 rfl ?_
      refine x_getR (q := 7) hG fg_X11_28 dX11_upOf_384 ?_
      refine x_bipush (v := (16 : Int32)) dX11_upOf_387 rfl ?_
      refine x_aload_n dX11_upOf_389 rfl 0 rfl ?_
      refine x_getIv hG fg_X11_128 dX11_upOf_390 rfl ?_
      refine x_imul dX11_upOf_393 ?_
      refine x_ialdv hG rfl dX11_upOf_394 h.1 rfl ?_
      replace h := h.2
      refine x_callVv [_, _] hG mv_X11_value lk_X11_168 rfl rfl rfl ⟨by decide, by decide⟩ rfl (Nat.le_of_ble_eq_true rfl) dX11_upOf_395 (ct_X11_value hG h) (fun σ14 h => ?_)
      refine x_goto dX11_upOf_398 518 (by decide) ?_
      exact x_vret rfl dX11_upOf_518 ⟨rfl, h⟩
  replace h := h.2
  refine x_case (18 : Int32) (fun c => ?_) (fun c15 => ?_)
  · refine x_tblIn (18 : Int32) 401 c dX11_upOf_2 (by decide) (by decide) rfl (by decide) ?_
    replace h := h.1 c
    refine x_aload_n dX11_upOf_401 rfl 0 rfl ?_
    refine x_dup dX11_upOf_402 rfl ?_
    refine x_getIv hG fg_X11_174 dX11_upOf_403 rfl ?_
    refine x_iconst (v := (1 : Int32)) dX11_upOf_406 rfl ?_
    refine x_isub dX11_upOf_407 ?_
    refine x_putI hG fp_X11_174 dX11_upOf_408 ?_
    refine x_aload_n dX11_upOf_411 rfl 0 rfl ?_
    refine x_aload_n dX11_upOf_412 rfl 0 rfl ?_
    refine x_getR (q := 24) hG fg_X11_79 dX11_upOf_413 ?_
    refine x_iload_n dX11_upOf_416 rfl 1 rfl ?_
    refine x_ialdv hG rfl dX11_upOf_417 h.1 (rd_no (by decide) rfl) ?_
    replace h := h.2
    refine x_iload_n dX11_upOf_418 rfl 2 rfl ?_
    refine x_callVi [_, _] hG mv_X11_isLink lk_X11_208 rfl rfl rfl ⟨by decide, by decide⟩ rfl (Nat.le_of_ble_eq_true rfl) dX11_upOf_419 (ct_X11_isLink hG h) (fun r17 σ16 h => ?_)
    refine x_if_eq dX11_upOf_422 518 (by decide) (fun c => ?_) (fun c => ?_)
    · replace h := h.1 c
      exact x_vret rfl dX11_upOf_518 ⟨rfl, h⟩
    · replace h := h.2 c
      refine x_aload_n dX11_upOf_425 rfl 0 rfl ?_
      refine x_bipush (v := (8 : Int32)) dX11_upOf_426 rfl ?_
      refine x_bipush (v := (16 : Int32)) dX11_upOf_428 rfl ?_
      refine x_aload_n dX11_upOf_430 rfl 0 rfl ?_
      refine x_getR (q := 25) hG fg_X11_82 dX11_upOf_431 ?_
      refine x_iload_n dX11_upOf_434 rfl 1 rfl ?_
      refine x_ialdv hG rfl dX11_upOf_435 h.1 rfl ?_
      replace h := h.2
      refine x_imul dX11_upOf_436 ?_
      refine x_iadd dX11_upOf_437 ?_
      refine x_aload_n dX11_upOf_438 rfl 0 rfl ?_
      refine x_getIv hG fg_X11_125 dX11_upOf_439 rfl ?_
      refine x_aload_n dX11_upOf_442 rfl 0 rfl ?_
      refine x_getIv hG fg_X11_128 dX11_upOf_443 rfl ?_
      refine x_callVv [_, _, _] hG mv_X11_write lk_X11_212 rfl rfl rfl ⟨by decide, by decide⟩ rfl (Nat.le_of_ble_eq_true rfl) dX11_upOf_446 (ct_X11_write hG h) (fun σ18 h => ?_)
      refine x_goto dX11_upOf_449 518 (by decide) ?_
      exact x_vret rfl dX11_upOf_518 ⟨rfl, h⟩
  replace h := h.2
  refine x_case (19 : Int32) (fun c => ?_) (fun c16 => ?_)
  · refine x_tblIn (19 : Int32) 452 c dX11_upOf_2 (by decide) (by decide) rfl (by decide) ?_
    replace h := h.1 c
    refine x_aload_n dX11_upOf_452 rfl 0 rfl ?_
    refine x_dup dX11_upOf_453 rfl ?_
    refine x_getIv hG fg_X11_174 dX11_upOf_454 rfl ?_
    refine x_iconst (v := (1 : Int32)) dX11_upOf_457 rfl ?_
    refine x_isub dX11_upOf_458 ?_
    refine x_putI hG fp_X11_174 dX11_upOf_459 ?_
    refine x_aload_n dX11_upOf_462 rfl 0 rfl ?_
    refine x_iload_n dX11_upOf_463 rfl 2 rfl ?_
    refine x_iload_n dX11_upOf_464 rfl 1 rfl ?_
    refine x_callVv [_, _] hG mv_X11_copyPlaces lk_X11_215 rfl rfl rfl ⟨by decide, by decide⟩ rfl (Nat.le_of_ble_eq_true rfl) dX11_upOf_465 (ct_X11_copyPlaces hG h) (fun σ20 h => ?_)
    refine x_goto dX11_upOf_468 518 (by decide) ?_
    exact x_vret rfl dX11_upOf_518 ⟨rfl, h⟩
  replace h := h.2
  refine x_case (20 : Int32) (fun c => ?_) (fun c17 => ?_)
  · refine x_tblIn (20 : Int32) 471 c dX11_upOf_2 (by decide) (by decide) rfl (by decide) ?_
    replace h := h.1 c
    refine x_aload_n dX11_upOf_471 rfl 0 rfl ?_
    refine x_dup dX11_upOf_472 rfl ?_
    refine x_getIv hG fg_X11_174 dX11_upOf_473 rfl ?_
    refine x_iconst (v := (1 : Int32)) dX11_upOf_476 rfl ?_
    refine x_isub dX11_upOf_477 ?_
    refine x_putI hG fp_X11_174 dX11_upOf_478 ?_
    refine x_aload_n dX11_upOf_481 rfl 0 rfl ?_
    refine x_aload_n dX11_upOf_482 rfl 0 rfl ?_
    refine x_getIv hG fg_X11_125 dX11_upOf_483 (rd_nj (by decide) rfl) ?_
    refine x_iload_n dX11_upOf_486 rfl 2 rfl ?_
    refine x_callVi [_, _] hG mv_X11_isWhole lk_X11_218 rfl rfl rfl ⟨by decide, by decide⟩ rfl (Nat.le_of_ble_eq_true rfl) dX11_upOf_487 (ct_X11_isWhole hG h) (fun r23 σ22 h => ?_)
    refine x_if_eq dX11_upOf_490 518 (by decide) (fun c => ?_) (fun c => ?_)
    · replace h := h.1 c
      exact x_vret rfl dX11_upOf_518 ⟨rfl, h⟩
    · replace h := h.2 c
      refine x_aload_n dX11_upOf_493 rfl 0 rfl ?_
      refine x_bipush (v := (7 : Int32)) dX11_upOf_494 rfl ?_
      refine x_aload_n dX11_upOf_496 rfl 0 rfl ?_
      refine x_getIv hG fg_X11_128 dX11_upOf_497 rfl ?_
      refine x_iload_n dX11_upOf_500 rfl 2 rfl ?_
      refine x_callVv [_, _, _] hG mv_X11_fail lk_X11_180 rfl rfl rfl ⟨by decide, by decide⟩ rfl (Nat.le_of_ble_eq_true rfl) dX11_upOf_501 (ct_X11_fail hG h) (fun σ24 h => ?_)
      refine x_goto dX11_upOf_504 518 (by decide) ?_
      exact x_vret rfl dX11_upOf_518 ⟨rfl, h⟩
  replace h := h.2
  replace h := h c0 c1 c2 c3 c4 c5 c6 c7 c8 c9 c10 c11 c12 c13 c14 c15 c16 c17
  refine x_tblOut [3, 4, 5, 6, 7, 8, 9, 10, 11, 12, 13, 14, 15, 16, 17, 18, 19, 20] 18 507 (by decide) (by decide) (List.forall_mem_cons.mpr ⟨c0, List.forall_mem_cons.mpr ⟨c1, List.forall_mem_cons.mpr ⟨c2, List.forall_mem_cons.mpr ⟨c3, List.forall_mem_cons.mpr ⟨c4, List.forall_mem_cons.mpr ⟨c5, List.forall_mem_cons.mpr ⟨c6, List.forall_mem_cons.mpr ⟨c7, List.forall_mem_cons.mpr ⟨c8, List.forall_mem_cons.mpr ⟨c9, List.forall_mem_cons.mpr ⟨c10, List.forall_mem_cons.mpr ⟨c11, List.forall_mem_cons.mpr ⟨c12, List.forall_mem_cons.mpr ⟨c13, List.forall_mem_cons.mpr ⟨c14, List.forall_mem_cons.mpr ⟨c15, List.forall_mem_cons.mpr ⟨c16, List.forall_mem_cons.mpr ⟨c17, fun _ h => absurd h List.not_mem_nil⟩⟩⟩⟩⟩⟩⟩⟩⟩⟩⟩⟩⟩⟩⟩⟩⟩⟩) dX11_upOf_2 (by decide) ?_
  refine x_aload_n dX11_upOf_507 rfl 0 rfl ?_
  refine x_iload_n dX11_upOf_508 rfl 1 rfl ?_
  refine x_iload_n dX11_upOf_509 rfl 2 rfl ?_
  refine x_iload_n dX11_upOf_510 rfl 3 rfl ?_
  refine x_iload dX11_upOf_511 4 rfl ?_
  refine x_iload dX11_upOf_513 5 rfl ?_
  refine x_callVv [_, _, _, _, _] hG mv_X11_upLater lk_X11_221 rfl rfl rfl ⟨by decide, by decide⟩ rfl (Nat.le_of_ble_eq_true rfl) dX11_upOf_515 (ct_X11_upLater hG h) (fun σ25 h => ?_)
  exact x_vret rfl dX11_upOf_518 ⟨rfl, h⟩
theorem ct_X11_upOf {G : Gx} (hG : gLy G = LyM) {σ : Sg} {l1 : Int32} {l2 : Int32} {l3 : Int32} {l4 : Int32} {l5 : Int32} {Q : Sg → Prop} (h : wX11_upOf σ l1 l2 l3 l4 l5 Q) : CT G mX11_upOf 6 [.ref (gad G 0), .int l1, .int l2, .int l3, .int l4, .int l5] σ (qv Q) := ct_of rfl (Nat.le_of_ble_eq_true rfl) rfl (xX11_upOf hG h)
/-! X11_up up -/
def wX11_up_96 (σ : Sg) (l1 : Int32) (l2 : Int32) (l3 : Int32) (Q : Sg → Prop) : Prop :=
  wX11_keepY σ l1 (fun σ1 =>
  vp_in l2 60 ∧
  wX11_start σ1 (sI σ1 4 (l2).toNatClampNeg) l3 (fun σ2 =>
  Q σ2
  )
  )
set_option maxRecDepth 100000 in
set_option maxHeartbeats 4000000 in
theorem xX11_up_96 {G : Gx} (hG : gLy G = LyM) {σ : Sg} {l1 : Int32} {l2 : Int32} {l3 : Int32} {Q : Sg → Prop} (h : wX11_up_96 σ l1 l2 l3 Q) : X G mX11_up 7 96 [(0, .ref (gad G 0)), (1, .int l1), (2, .int l2), (3, .int l3)] [] σ (qv Q) := by
  unfold wX11_up_96 at h
  refine x_aload_n dX11_up_96 rfl 0 rfl ?_
  refine x_iload_n dX11_up_97 rfl 1 rfl ?_
  refine x_callVv [_] hG mv_X11_keepY lk_X11_188 rfl rfl rfl ⟨by decide, by decide⟩ rfl (Nat.le_of_ble_eq_true rfl) dX11_up_98 (ct_X11_keepY hG h) (fun σ1 h => ?_)
  refine x_aload_n dX11_up_101 rfl 0 rfl ?_
  refine x_aload_n dX11_up_102 rfl 0 rfl ?_
  refine x_getR (q := 4) hG fg_X11_19 dX11_up_103 ?_
  refine x_iload_n dX11_up_106 rfl 2 rfl ?_
  refine x_ialdv hG rfl dX11_up_107 h.1 rfl ?_
  replace h := h.2
  refine x_iload_n dX11_up_108 rfl 3 rfl ?_
  refine x_callVv [_, _] hG mv_X11_start lk_X11_177 rfl rfl rfl ⟨by decide, by decide⟩ rfl (Nat.le_of_ble_eq_true rfl) dX11_up_109 (ct_X11_start hG h) (fun σ2 h => ?_)
  exact x_vret rfl dX11_up_112 ⟨rfl, h⟩
def wX11_up_168 (σ : Sg) (l1 : Int32) (l2 : Int32) (l3 : Int32) (Q : Sg → Prop) : Prop :=
  wX11_keepX σ l1 (fun σ1 =>
  vp_in l2 60 ∧
  wX11_start σ1 (sI σ1 3 (l2).toNatClampNeg) l3 (fun σ2 =>
  Q σ2
  )
  )
set_option maxRecDepth 100000 in
set_option maxHeartbeats 4000000 in
theorem xX11_up_168 {G : Gx} (hG : gLy G = LyM) {σ : Sg} {l1 : Int32} {l2 : Int32} {l3 : Int32} {Q : Sg → Prop} (h : wX11_up_168 σ l1 l2 l3 Q) : X G mX11_up 7 168 [(0, .ref (gad G 0)), (1, .int l1), (2, .int l2), (3, .int l3)] [] σ (qv Q) := by
  unfold wX11_up_168 at h
  refine x_aload_n dX11_up_168 rfl 0 rfl ?_
  refine x_iload_n dX11_up_169 rfl 1 rfl ?_
  refine x_callVv [_] hG mv_X11_keepX lk_X11_184 rfl rfl rfl ⟨by decide, by decide⟩ rfl (Nat.le_of_ble_eq_true rfl) dX11_up_170 (ct_X11_keepX hG h) (fun σ1 h => ?_)
  refine x_aload_n dX11_up_173 rfl 0 rfl ?_
  refine x_aload_n dX11_up_174 rfl 0 rfl ?_
  refine x_getR (q := 3) hG fg_X11_16 dX11_up_175 ?_
  refine x_iload_n dX11_up_178 rfl 2 rfl ?_
  refine x_ialdv hG rfl dX11_up_179 h.1 rfl ?_
  replace h := h.2
  refine x_iload_n dX11_up_180 rfl 3 rfl ?_
  refine x_callVv [_, _] hG mv_X11_start lk_X11_177 rfl rfl rfl ⟨by decide, by decide⟩ rfl (Nat.le_of_ble_eq_true rfl) dX11_up_181 (ct_X11_start hG h) (fun σ2 h => ?_)
  exact x_vret rfl dX11_up_184 ⟨rfl, h⟩
def wX11_up_185 (σ : Sg) (l1 : Int32) (l2 : Int32) (l3 : Int32) (l4 : Int32) (l5 : Int32) (Q : Sg → Prop) : Prop :=
  wX11_upOf σ l1 l2 l3 l4 l5 (fun σ1 =>
  Q σ1
  )
set_option maxRecDepth 100000 in
set_option maxHeartbeats 4000000 in
theorem xX11_up_185 {G : Gx} (hG : gLy G = LyM) {σ : Sg} {l1 : Int32} {l2 : Int32} {l3 : Int32} {l4 : Int32} {l5 : Int32} {Q : Sg → Prop} (h : wX11_up_185 σ l1 l2 l3 l4 l5 Q) : X G mX11_up 7 185 [(0, .ref (gad G 0)), (1, .int l1), (2, .int l2), (3, .int l3), (4, .int l4), (5, .int l5)] [] σ (qv Q) := by
  unfold wX11_up_185 at h
  refine x_aload_n dX11_up_185 rfl 0 rfl ?_
  refine x_iload_n dX11_up_186 rfl 1 rfl ?_
  refine x_iload_n dX11_up_187 rfl 2 rfl ?_
  refine x_iload_n dX11_up_188 rfl 3 rfl ?_
  refine x_iload dX11_up_189 4 rfl ?_
  refine x_iload dX11_up_191 5 rfl ?_
  refine x_callVv [_, _, _, _, _] hG mv_X11_upOf lk_X11_191 rfl rfl rfl ⟨by decide, by decide⟩ rfl (Nat.le_of_ble_eq_true rfl) dX11_up_193 (ct_X11_upOf hG h) (fun σ1 h => ?_)
  exact x_vret rfl dX11_up_196 ⟨rfl, h⟩
def wX11_up_143 (σ : Sg) (l1 : Int32) (l2 : Int32) (l3 : Int32) (l4 : Int32) (l5 : Int32) (s0 : Int32) (Q : Sg → Prop) : Prop :=
  (l5 = 0 → (
    (s0 = 0 → (
      (l4 = (3 : Int32) → (
        wX11_up_168 σ l1 l2 l3 Q
      )) ∧ (¬ l4 = (3 : Int32) → (
        (l4 = (22 : Int32) → (
          wX11_up_168 σ l1 l2 l3 Q
        )) ∧ (¬ l4 = (22 : Int32) → (
          wX11_up_185 σ l1 l2 l3 l4 l5 Q
        ))
      ))
    )) ∧ (¬ s0 = 0 → (
      wX11_up_168 σ l1 l2 l3 Q
    ))
  )) ∧ (¬ l5 = 0 → (
    wX11_up_185 σ l1 l2 l3 l4 l5 Q
  ))
set_option maxRecDepth 100000 in
set_option maxHeartbeats 4000000 in
theorem xX11_up_143 {G : Gx} (hG : gLy G = LyM) {σ : Sg} {l1 : Int32} {l2 : Int32} {l3 : Int32} {l4 : Int32} {l5 : Int32} {s0 : Int32} {Q : Sg → Prop} (h : wX11_up_143 σ l1 l2 l3 l4 l5 s0 Q) : X G mX11_up 7 143 [(0, .ref (gad G 0)), (1, .int l1), (2, .int l2), (3, .int l3), (4, .int l4), (5, .int l5)] [.int s0] σ (qv Q) := by
  unfold wX11_up_143 at h
  refine x_istore dX11_up_143 (Nat.le_of_ble_eq_true rfl) (lv' := [(6, _), (0, _), (1, _), (2, _), (3, _), (4, _), (5, _)]) rfl ?_
  refine x_iload dX11_up_145 6 rfl ?_
  refine x_if_ne dX11_up_147 185 (by decide) (fun c => ?_) (fun c => ?_)
  · replace h := h.1 c
    refine x_iload dX11_up_150 0 rfl ?_
    refine x_if_ne dX11_up_152 168 (by decide) (fun c => ?_) (fun c => ?_)
    · replace h := h.1 c
      refine x_iload dX11_up_155 5 rfl ?_
      refine x_iconst (v := (3 : Int32)) dX11_up_157 rfl ?_
      refine x_icmp_eq dX11_up_158 168 (by decide) (fun c => ?_) (fun c => ?_)
      · replace h := h.1 c
        exact x_sub [1, 2, 3, 4] rfl (xX11_up_168 hG h)
      · replace h := h.2 c
        refine x_iload dX11_up_161 5 rfl ?_
        refine x_bipush (v := (22 : Int32)) dX11_up_163 rfl ?_
        refine x_icmp_ne dX11_up_165 185 (by decide) (fun c => ?_) (fun c => ?_)
        · replace h := h.1 c
          exact x_sub [1, 2, 3, 4] rfl (xX11_up_168 hG h)
        · replace h := h.2 c
          exact x_sub [1, 2, 3, 4, 5, 6] rfl (xX11_up_185 hG h)
    · replace h := h.2 c
      exact x_sub [1, 2, 3, 4] rfl (xX11_up_168 hG h)
  · replace h := h.2 c
    exact x_sub [1, 2, 3, 4, 5, 6] rfl (xX11_up_185 hG h)
def wX11_up_138 (σ : Sg) (l1 : Int32) (l2 : Int32) (l3 : Int32) (l4 : Int32) (l5 : Int32) (Q : Sg → Prop) : Prop :=
  wX11_up_143 σ l1 l2 l3 l4 l5 (1 : Int32) Q
set_option maxRecDepth 100000 in
set_option maxHeartbeats 4000000 in
theorem xX11_up_138 {G : Gx} (hG : gLy G = LyM) {σ : Sg} {l1 : Int32} {l2 : Int32} {l3 : Int32} {l4 : Int32} {l5 : Int32} {Q : Sg → Prop} (h : wX11_up_138 σ l1 l2 l3 l4 l5 Q) : X G mX11_up 7 138 [(0, .ref (gad G 0)), (1, .int l1), (2, .int l2), (3, .int l3), (4, .int l4), (5, .int l5)] [] σ (qv Q) := by
  unfold wX11_up_138 at h
  refine x_iconst (v := (1 : Int32)) dX11_up_138 rfl ?_
  refine x_goto dX11_up_139 143 (by decide) ?_
  exact x_sub [0, 1, 2, 3, 4, 5] rfl (xX11_up_143 hG h)
def wX11_up_113 (σ : Sg) (l1 : Int32) (l2 : Int32) (l3 : Int32) (l4 : Int32) (l5 : Int32) (Q : Sg → Prop) : Prop :=
  wX11_in σ l4 (5 : Int32) (9 : Int32) (fun r2 σ1 =>
  (r2 = 0 → (
    (l4 = (15 : Int32) → (
      wX11_up_138 σ1 l1 l2 l3 l4 l5 Q
    )) ∧ (¬ l4 = (15 : Int32) → (
      (l4 = (18 : Int32) → (
        wX11_up_138 σ1 l1 l2 l3 l4 l5 Q
      )) ∧ (¬ l4 = (18 : Int32) → (
        wX11_up_143 σ1 l1 l2 l3 l4 l5 (0 : Int32) Q
      ))
    ))
  )) ∧ (¬ r2 = 0 → (
    wX11_up_138 σ1 l1 l2 l3 l4 l5 Q
  ))
  )
set_option maxRecDepth 100000 in
set_option maxHeartbeats 4000000 in
theorem xX11_up_113 {G : Gx} (hG : gLy G = LyM) {σ : Sg} {l1 : Int32} {l2 : Int32} {l3 : Int32} {l4 : Int32} {l5 : Int32} {Q : Sg → Prop} (h : wX11_up_113 σ l1 l2 l3 l4 l5 Q) : X G mX11_up 7 113 [(0, .ref (gad G 0)), (1, .int l1), (2, .int l2), (3, .int l3), (4, .int l4), (5, .int l5)] [] σ (qv Q) := by
  unfold wX11_up_113 at h
  refine x_iload dX11_up_113 4 rfl ?_
  refine x_iconst (v := (5 : Int32)) dX11_up_115 rfl ?_
  refine x_bipush (v := (9 : Int32)) dX11_up_116 rfl ?_
  refine x_callSi [_, _, _] ms_X11_in lk_X11_107 rfl ⟨by decide, by decide⟩ rfl (Nat.le_of_ble_eq_true rfl) dX11_up_118 (ct_X11_in hG h) (fun r2 σ1 h => ?_)
  refine x_if_ne dX11_up_121 138 (by decide) (fun c => ?_) (fun c => ?_)
  · replace h := h.1 c
    refine x_iload dX11_up_124 4 rfl ?_
    refine x_bipush (v := (15 : Int32)) dX11_up_126 rfl ?_
    refine x_icmp_eq dX11_up_128 138 (by decide) (fun c => ?_) (fun c => ?_)
    · replace h := h.1 c
      exact x_sub [0, 1, 2, 3, 4, 5] rfl (xX11_up_138 hG h)
    · replace h := h.2 c
      refine x_iload dX11_up_131 4 rfl ?_
      refine x_bipush (v := (18 : Int32)) dX11_up_133 rfl ?_
      refine x_icmp_ne dX11_up_135 142 (by decide) (fun c => ?_) (fun c => ?_)
      · replace h := h.1 c
        exact x_sub [0, 1, 2, 3, 4, 5] rfl (xX11_up_138 hG h)
      · replace h := h.2 c
        refine x_iconst (v := (0 : Int32)) dX11_up_142 rfl ?_
        exact x_sub [0, 1, 2, 3, 4, 5] rfl (xX11_up_143 hG h)
  · replace h := h.2 c
    exact x_sub [0, 1, 2, 3, 4, 5] rfl (xX11_up_138 hG h)
def wX11_up_76 (σ : Sg) (l1 : Int32) (l2 : Int32) (l3 : Int32) (l4 : Int32) (l5 : Int32) (Q : Sg → Prop) : Prop :=
  (l5 = (1 : Int32) → (
    (l4 = (16 : Int32) → (
      wX11_up_96 σ l1 l2 l3 Q
    )) ∧ (¬ l4 = (16 : Int32) → (
      (l4 = (19 : Int32) → (
        wX11_up_96 σ l1 l2 l3 Q
      )) ∧ (¬ l4 = (19 : Int32) → (
        wX11_up_113 σ l1 l2 l3 l4 l5 Q
      ))
    ))
  )) ∧ (¬ l5 = (1 : Int32) → (
    wX11_up_113 σ l1 l2 l3 l4 l5 Q
  ))
set_option maxRecDepth 100000 in
set_option maxHeartbeats 4000000 in
theorem xX11_up_76 {G : Gx} (hG : gLy G = LyM) {σ : Sg} {l1 : Int32} {l2 : Int32} {l3 : Int32} {l4 : Int32} {l5 : Int32} {Q : Sg → Prop} (h : wX11_up_76 σ l1 l2 l3 l4 l5 Q) : X G mX11_up 7 76 [(0, .ref (gad G 0)), (1, .int l1), (2, .int l2), (3, .int l3), (4, .int l4), (5, .int l5)] [] σ (qv Q) := by
  unfold wX11_up_76 at h
  refine x_iload dX11_up_76 5 rfl ?_
  refine x_iconst (v := (1 : Int32)) dX11_up_78 rfl ?_
  refine x_icmp_ne dX11_up_79 113 (by decide) (fun c => ?_) (fun c => ?_)
  · replace h := h.1 c
    refine x_iload dX11_up_82 4 rfl ?_
    refine x_bipush (v := (16 : Int32)) dX11_up_84 rfl ?_
    refine x_icmp_eq dX11_up_86 96 (by decide) (fun c => ?_) (fun c => ?_)
    · replace h := h.1 c
      exact x_sub [0, 1, 2, 3] rfl (xX11_up_96 hG h)
    · replace h := h.2 c
      refine x_iload dX11_up_89 4 rfl ?_
      refine x_bipush (v := (19 : Int32)) dX11_up_91 rfl ?_
      refine x_icmp_ne dX11_up_93 113 (by decide) (fun c => ?_) (fun c => ?_)
      · replace h := h.1 c
        exact x_sub [0, 1, 2, 3] rfl (xX11_up_96 hG h)
      · replace h := h.2 c
        exact x_sub [0, 1, 2, 3, 4, 5] rfl (xX11_up_113 hG h)
  · replace h := h.2 c
    exact x_sub [0, 1, 2, 3, 4, 5] rfl (xX11_up_113 hG h)
def wX11_up (σ : Sg) (Q : Sg → Prop) : Prop :=
  vp_in ((sI σ 0 26) - (1 : Int32)) 220 ∧
  let x1 := (sI σ 21 (((sI σ 0 26) - (1 : Int32))).toNatClampNeg)
  vp_in ((sI σ 0 26) - (1 : Int32)) 220 ∧
  let x2 := (sI σ 23 (((sI σ 0 26) - (1 : Int32))).toNatClampNeg)
  vp_in x1 60 ∧
  vp_in ((sI σ 0 26) - (1 : Int32)) 220 ∧
  let x3 := (sI σ 22 (((sI σ 0 26) - (1 : Int32))).toNatClampNeg)
  (x3 = 0 → (
    wX11_actsOf σ (sI σ 1 (x1).toNatClampNeg) (fun r5 σ4 =>
    (r5 = (7 : Int32) → (
      ((sI σ 1 (x1).toNatClampNeg) = (23 : Int32) → (
        wX11_up_76 σ4 ((sI σ 0 26) - (1 : Int32)) x1 x2 (sI σ 1 (x1).toNatClampNeg) x3 Q
      )) ∧ (¬ (sI σ 1 (x1).toNatClampNeg) = (23 : Int32) → (
        wX11_keepX σ4 ((sI σ 0 26) - (1 : Int32)) (fun σ6 =>
        vp_in x1 60 ∧
        wX11_start σ6 (sI σ6 3 (x1).toNatClampNeg) x2 (fun σ7 =>
        Q σ7
        )
        )
      ))
    )) ∧ (¬ r5 = (7 : Int32) → (
      wX11_up_76 σ4 ((sI σ 0 26) - (1 : Int32)) x1 x2 (sI σ 1 (x1).toNatClampNeg) x3 Q
    ))
    )
  )) ∧ (¬ x3 = 0 → (
    wX11_up_76 σ ((sI σ 0 26) - (1 : Int32)) x1 x2 (sI σ 1 (x1).toNatClampNeg) x3 Q
  ))
set_option maxRecDepth 100000 in
set_option maxHeartbeats 4000000 in
theorem xX11_up {G : Gx} (hG : gLy G = LyM) {σ : Sg} {Q : Sg → Prop} (h : wX11_up σ Q) : X G mX11_up 7 0 [(0, .ref (gad G 0))] [] σ (qv Q) := by
  unfold wX11_up at h
  refine x_aload_n dX11_up_0 rfl 0 rfl ?_
  refine x_getIv hG fg_X11_174 dX11_up_1 rfl ?_
  refine x_iconst (v := (1 : Int32)) dX11_up_4 rfl ?_
  refine x_isub dX11_up_5 ?_
  refine x_istore_n dX11_up_6 rfl (Nat.le_of_ble_eq_true rfl) (lv' := [(1, _), (0, _)]) rfl ?_
  refine x_aload_n dX11_up_7 rfl 1 rfl ?_
  refine x_getR (q := 21) hG fg_X11_70 dX11_up_8 ?_
  refine x_iload_n dX11_up_11 rfl 0 rfl ?_
  refine x_ialdv hG rfl dX11_up_12 h.1 rfl ?_
  replace h := h.2
  refine x_istore_n dX11_up_13 rfl (Nat.le_of_ble_eq_true rfl) (lv' := [(2, _), (1, _), (0, _)]) rfl ?_
  refine x_aload_n dX11_up_14 rfl 2 rfl ?_
  refine x_getR (q := 23) hG fg_X11_76 dX11_up_15 ?_
  refine x_iload_n dX11_up_18 rfl 1 rfl ?_
  refine x_ialdv hG rfl dX11_up_19 h.1 rfl ?_
  replace h := h.2
  refine x_istore_n dX11_up_20 rfl (Nat.le_of_ble_eq_true rfl) (lv' := [(3, _), (2, _), (1, _), (0, _)]) rfl ?_
  refine x_aload_n dX11_up_21 rfl 3 rfl ?_
  refine x_getR (q := 1) hG fg_X11_7 dX11_up_22 ?_
  refine x_iload_n dX11_up_25 rfl 1 rfl ?_
  refine x_ialdv hG rfl dX11_up_26 h.1 rfl ?_
  replace h := h.2
  refine x_istore dX11_up_27 (Nat.le_of_ble_eq_true rfl) (lv' := [(4, _), (3, _), (2, _), (1, _), (0, _)]) rfl ?_
  refine x_aload_n dX11_up_29 rfl 4 rfl ?_
  refine x_getR (q := 22) hG fg_X11_73 dX11_up_30 ?_
  refine x_iload_n dX11_up_33 rfl 3 rfl ?_
  refine x_ialdv hG rfl dX11_up_34 h.1 rfl ?_
  replace h := h.2
  refine x_istore dX11_up_35 (Nat.le_of_ble_eq_true rfl) (lv' := [(5, _), (4, _), (3, _), (2, _), (1, _), (0, _)]) rfl ?_
  refine x_iload dX11_up_37 0 rfl ?_
  refine x_if_ne dX11_up_39 76 (by decide) (fun c => ?_) (fun c => ?_)
  · replace h := h.1 c
    refine x_iload dX11_up_42 1 rfl ?_
    refine x_callSi [_] ms_X11_actsOf lk_X11_114 rfl ⟨by decide, by decide⟩ rfl (Nat.le_of_ble_eq_true rfl) dX11_up_44 (ct_X11_actsOf hG h) (fun r5 σ4 h => ?_)
    refine x_bipush (v := (7 : Int32)) dX11_up_47 rfl ?_
    refine x_icmp_ne dX11_up_49 76 (by decide) (fun c => ?_) (fun c => ?_)
    · replace h := h.1 c
      refine x_iload dX11_up_52 1 rfl ?_
      refine x_bipush (v := (23 : Int32)) dX11_up_54 rfl ?_
      refine x_icmp_eq dX11_up_56 76 (by decide) (fun c => ?_) (fun c => ?_)
      · replace h := h.1 c
        exact x_sub [5, 4, 3, 2, 1, 0] rfl (xX11_up_76 hG h)
      · replace h := h.2 c
        refine x_aload_n dX11_up_59 rfl 5 rfl ?_
        refine x_iload_n dX11_up_60 rfl 4 rfl ?_
        refine x_callVv [_] hG mv_X11_keepX lk_X11_184 rfl rfl rfl ⟨by decide, by decide⟩ rfl (Nat.le_of_ble_eq_true rfl) dX11_up_61 (ct_X11_keepX hG h) (fun σ6 h => ?_)
        refine x_aload_n dX11_up_64 rfl 5 rfl ?_
        refine x_aload_n dX11_up_65 rfl 5 rfl ?_
        refine x_getR (q := 3) hG fg_X11_16 dX11_up_66 ?_
        refine x_iload_n dX11_up_69 rfl 3 rfl ?_
        refine x_ialdv hG rfl dX11_up_70 h.1 rfl ?_
        replace h := h.2
        refine x_iload_n dX11_up_71 rfl 2 rfl ?_
        refine x_callVv [_, _] hG mv_X11_start lk_X11_177 rfl rfl rfl ⟨by decide, by decide⟩ rfl (Nat.le_of_ble_eq_true rfl) dX11_up_72 (ct_X11_start hG h) (fun σ7 h => ?_)
        exact x_vret rfl dX11_up_75 ⟨rfl, h⟩
    · replace h := h.2 c
      exact x_sub [5, 4, 3, 2, 1, 0] rfl (xX11_up_76 hG h)
  · replace h := h.2 c
    exact x_sub [5, 4, 3, 2, 1, 0] rfl (xX11_up_76 hG h)
theorem ct_X11_up {G : Gx} (hG : gLy G = LyM) {σ : Sg} {Q : Sg → Prop} (h : wX11_up σ Q) : CT G mX11_up 7 [.ref (gad G 0)] σ (qv Q) := ct_of rfl (Nat.le_of_ble_eq_true rfl) rfl (xX11_up hG h)
/-! X11_leave leave -/
def wX11_leave_38 (σ : Sg) (l1 : Int32) (l3 : Int32) (l4 : Int32) (Q : Sg → Prop) : Prop :=
  (l3 = (28 : Int32) → (
    (l4 = (1 : Int32) → (
      vp_in l1 220 ∧
      vp_in (sI σ 25 (l1).toNatClampNeg) 220 ∧
      let σ1 := wI σ 10 ((sI σ 25 (l1).toNatClampNeg)).toNatClampNeg (0 : Int32)
      Q σ1
    )) ∧ (¬ l4 = (1 : Int32) → (
      Q σ
    ))
  )) ∧ (¬ l3 = (28 : Int32) → (
    Q σ
  ))
set_option maxRecDepth 100000 in
set_option maxHeartbeats 4000000 in
theorem xX11_leave_38 {G : Gx} (hG : gLy G = LyM) {σ : Sg} {l1 : Int32} {l3 : Int32} {l4 : Int32} {Q : Sg → Prop} (h : wX11_leave_38 σ l1 l3 l4 Q) : X G mX11_leave 2 38 [(0, .ref (gad G 0)), (1, .int l1), (3, .int l3), (4, .int l4)] [] σ (qv Q) := by
  unfold wX11_leave_38 at h
  refine x_iload_n dX11_leave_38 rfl 2 rfl ?_
  refine x_bipush (v := (28 : Int32)) dX11_leave_39 rfl ?_
  refine x_icmp_ne dX11_leave_41 62 (by decide) (fun c => ?_) (fun c => ?_)
  · replace h := h.1 c
    refine x_iload dX11_leave_44 3 rfl ?_
    refine x_iconst (v := (1 : Int32)) dX11_leave_46 rfl ?_
    refine x_icmp_ne dX11_leave_47 62 (by decide) (fun c => ?_) (fun c => ?_)
    · replace h := h.1 c
      refine x_aload_n dX11_leave_50 rfl 0 rfl ?_
      refine x_getR (q := 10) hG fg_X11_37 dX11_leave_51 ?_
      refine x_aload_n dX11_leave_54 rfl 0 rfl ?_
      refine x_getR (q := 25) hG fg_X11_82 dX11_leave_55 ?_
      refine x_iload_n dX11_leave_58 rfl 1 rfl ?_
      refine x_ialdv hG rfl dX11_leave_59 h.1 rfl ?_
      replace h := h.2
      refine x_iconst (v := (0 : Int32)) dX11_leave_60 rfl ?_
      refine x_iast hG rfl dX11_leave_61 h.1 ?_
      replace h := h.2
      exact x_vret rfl dX11_leave_62 ⟨rfl, h⟩
    · replace h := h.2 c
      exact x_vret rfl dX11_leave_62 ⟨rfl, h⟩
  · replace h := h.2 c
    exact x_vret rfl dX11_leave_62 ⟨rfl, h⟩
def wX11_leave_16 (σ : Sg) (l1 : Int32) (l3 : Int32) (l4 : Int32) (Q : Sg → Prop) : Prop :=
  (l3 = (25 : Int32) → (
    (l4 = (1 : Int32) → (
      let σ1 := wI σ 0 47 ((sI σ 0 47) - (1 : Int32))
      wX11_leave_38 σ1 l1 l3 l4 Q
    )) ∧ (¬ l4 = (1 : Int32) → (
      wX11_leave_38 σ l1 l3 l4 Q
    ))
  )) ∧ (¬ l3 = (25 : Int32) → (
    wX11_leave_38 σ l1 l3 l4 Q
  ))
set_option maxRecDepth 100000 in
set_option maxHeartbeats 4000000 in
theorem xX11_leave_16 {G : Gx} (hG : gLy G = LyM) {σ : Sg} {l1 : Int32} {l3 : Int32} {l4 : Int32} {Q : Sg → Prop} (h : wX11_leave_16 σ l1 l3 l4 Q) : X G mX11_leave 2 16 [(0, .ref (gad G 0)), (1, .int l1), (3, .int l3), (4, .int l4)] [] σ (qv Q) := by
  unfold wX11_leave_16 at h
  refine x_iload_n dX11_leave_16 rfl 2 rfl ?_
  refine x_bipush (v := (25 : Int32)) dX11_leave_17 rfl ?_
  refine x_icmp_ne dX11_leave_19 38 (by decide) (fun c => ?_) (fun c => ?_)
  · replace h := h.1 c
    refine x_iload dX11_leave_22 3 rfl ?_
    refine x_iconst (v := (1 : Int32)) dX11_leave_24 rfl ?_
    refine x_icmp_ne dX11_leave_25 38 (by decide) (fun c => ?_) (fun c => ?_)
    · replace h := h.1 c
      refine x_aload_n dX11_leave_28 rfl 0 rfl ?_
      refine x_dup dX11_leave_29 rfl ?_
      refine x_getIv hG fg_X11_236 dX11_leave_30 rfl ?_
      refine x_iconst (v := (1 : Int32)) dX11_leave_33 rfl ?_
      refine x_isub dX11_leave_34 ?_
      refine x_putI hG fp_X11_236 dX11_leave_35 ?_
      exact x_sub [0, 1, 2, 3] rfl (xX11_leave_38 hG h)
    · replace h := h.2 c
      exact x_sub [0, 1, 2, 3] rfl (xX11_leave_38 hG h)
  · replace h := h.2 c
    exact x_sub [0, 1, 2, 3] rfl (xX11_leave_38 hG h)
def wX11_leave (σ : Sg) (l1 : Int32) (l2 : Int32) (l3 : Int32) (l4 : Int32) (Q : Sg → Prop) : Prop :=
  (l3 = (29 : Int32) → (
    vp_in l1 220 ∧
    wX11_back σ (sI σ 28 (l1).toNatClampNeg) (fun σ1 =>
    wX11_leave_16 σ1 l1 l3 l4 Q
    )
  )) ∧ (¬ l3 = (29 : Int32) → (
    wX11_leave_16 σ l1 l3 l4 Q
  ))
set_option maxRecDepth 100000 in
set_option maxHeartbeats 4000000 in
theorem xX11_leave {G : Gx} (hG : gLy G = LyM) {σ : Sg} {l1 : Int32} {l2 : Int32} {l3 : Int32} {l4 : Int32} {Q : Sg → Prop} (h : wX11_leave σ l1 l2 l3 l4 Q) : X G mX11_leave 2 0 [(0, .ref (gad G 0)), (1, .int l1), (2, .int l2), (3, .int l3), (4, .int l4)] [] σ (qv Q) := by
  unfold wX11_leave at h
  refine x_iload_n dX11_leave_0 rfl 3 rfl ?_
  refine x_bipush (v := (29 : Int32)) dX11_leave_1 rfl ?_
  refine x_icmp_ne dX11_leave_3 16 (by decide) (fun c => ?_) (fun c => ?_)
  · replace h := h.1 c
    refine x_aload_n dX11_leave_6 rfl 0 rfl ?_
    refine x_aload_n dX11_leave_7 rfl 0 rfl ?_
    refine x_getR (q := 28) hG fg_X11_91 dX11_leave_8 ?_
    refine x_iload_n dX11_leave_11 rfl 1 rfl ?_
    refine x_ialdv hG rfl dX11_leave_12 h.1 rfl ?_
    replace h := h.2
    refine x_callVv [_] hG mv_X11_back lk_X11_255 rfl rfl rfl ⟨by decide, by decide⟩ rfl (Nat.le_of_ble_eq_true rfl) dX11_leave_13 (ct_X11_back hG h) (fun σ1 h => ?_)
    exact x_sub [0, 1, 3, 4] rfl (xX11_leave_16 hG h)
  · replace h := h.2 c
    exact x_sub [0, 1, 3, 4] rfl (xX11_leave_16 hG h)
theorem ct_X11_leave {G : Gx} (hG : gLy G = LyM) {σ : Sg} {l1 : Int32} {l2 : Int32} {l3 : Int32} {l4 : Int32} {Q : Sg → Prop} (h : wX11_leave σ l1 l2 l3 l4 Q) : CT G mX11_leave 2 [.ref (gad G 0), .int l1, .int l2, .int l3, .int l4] σ (qv Q) := ct_of rfl (Nat.le_of_ble_eq_true rfl) rfl (xX11_leave hG h)
/-! X11_upFailure upFailure -/
def wX11_upFailure_62 (σ : Sg) (l1 : Int32) (l2 : Int32) (Q : Sg → Prop) : Prop :=
  vp_in l1 220 ∧
  let x1 := (((8 : Int32) * (sI σ 23 (l1).toNatClampNeg)) + (7 : Int32))
  vp_in x1 1760 ∧
  let σ2 := wI σ 13 (x1).toNatClampNeg (0 : Int32)
  vp_in x1 1760 ∧
  let σ3 := wI σ2 14 (x1).toNatClampNeg (sI σ 0 42)
  vp_in l1 220 ∧
  let σ4 := wI σ3 22 (l1).toNatClampNeg (1 : Int32)
  vp_in l2 60 ∧
  vp_in l1 220 ∧
  wX11_start σ4 (sI σ 4 (l2).toNatClampNeg) (sI σ 23 (l1).toNatClampNeg) (fun σ5 =>
  Q σ5
  )
set_option maxRecDepth 100000 in
set_option maxHeartbeats 4000000 in
theorem xX11_upFailure_62 {G : Gx} (hG : gLy G = LyM) {σ : Sg} {l1 : Int32} {l2 : Int32} {Q : Sg → Prop} (h : wX11_upFailure_62 σ l1 l2 Q) : X G mX11_upFailure 3 62 [(0, .ref (gad G 0)), (1, .int l1), (2, .int l2)] [] σ (qv Q) := by
  unfold wX11_upFailure_62 at h
  refine x_bipush (v := (8 : Int32)) dX11_upFailure_62 rfl ?_
  refine x_aload_n dX11_upFailure_64 rfl 0 rfl ?_
  refine x_getR (q := 23) hG fg_X11_76 dX11_upFailure_65 ?_
  refine x_iload_n dX11_upFailure_68 rfl 1 rfl ?_
  refine x_ialdv hG rfl dX11_upFailure_69 h.1 rfl ?_
  replace h := h.2
  refine x_imul dX11_upFailure_70 ?_
  refine x_bipush (v := (7 : Int32)) dX11_upFailure_71 rfl ?_
  refine x_iadd dX11_upFailure_73 ?_
  refine x_istore dX11_upFailure_74 (Nat.le_of_ble_eq_true rfl) (lv' := [(5, _), (0, _), (1, _), (2, _)]) rfl ?_
  refine x_aload_n dX11_upFailure_76 rfl 1 rfl ?_
  refine x_getR (q := 13) hG fg_X11_46 dX11_upFailure_77 ?_
  refine x_iload dX11_upFailure_80 0 rfl ?_
  refine x_iconst (v := (0 : Int32)) dX11_upFailure_82 rfl ?_
  refine x_iast hG rfl dX11_upFailure_83 h.1 ?_
  replace h := h.2
  refine x_aload_n dX11_upFailure_84 rfl 1 rfl ?_
  refine x_getR (q := 14) hG fg_X11_49 dX11_upFailure_85 ?_
  refine x_iload dX11_upFailure_88 0 rfl ?_
  refine x_aload_n dX11_upFailure_90 rfl 1 rfl ?_
  refine x_getIv hG fg_X11_140 dX11_upFailure_91 (rd_no (by decide) rfl) ?_
  refine x_iast hG rfl dX11_upFailure_94 h.1 ?_
  replace h := h.2
  refine x_aload_n dX11_upFailure_95 rfl 1 rfl ?_
  refine x_getR (q := 22) hG fg_X11_73 dX11_upFailure_96 ?_
  refine x_iload_n dX11_upFailure_99 rfl 2 rfl ?_
  refine x_iconst (v := (1 : Int32)) dX11_upFailure_100 rfl ?_
  refine x_iast hG rfl dX11_upFailure_101 h.1 ?_
  replace h := h.2
  refine x_aload_n dX11_upFailure_102 rfl 1 rfl ?_
  refine x_aload_n dX11_upFailure_103 rfl 1 rfl ?_
  refine x_getR (q := 4) hG fg_X11_19 dX11_upFailure_104 ?_
  refine x_iload_n dX11_upFailure_107 rfl 3 rfl ?_
  refine x_ialdv hG rfl dX11_upFailure_108 h.1 (rd_no (by decide) (rd_no (by decide) (rd_no (by decide) rfl))) ?_
  replace h := h.2
  refine x_aload_n dX11_upFailure_109 rfl 1 rfl ?_
  refine x_getR (q := 23) hG fg_X11_76 dX11_upFailure_110 ?_
  refine x_iload_n dX11_upFailure_113 rfl 2 rfl ?_
  refine x_ialdv hG rfl dX11_upFailure_114 h.1 (rd_no (by decide) (rd_no (by decide) (rd_no (by decide) rfl))) ?_
  replace h := h.2
  refine x_callVv [_, _] hG mv_X11_start lk_X11_177 rfl rfl rfl ⟨by decide, by decide⟩ rfl (Nat.le_of_ble_eq_true rfl) dX11_upFailure_115 (ct_X11_start hG h) (fun σ5 h => ?_)
  refine x_goto dX11_upFailure_118 261 (by decide) ?_
  exact x_vret rfl dX11_upFailure_261 ⟨rfl, h⟩
def wX11_upFailure_188 (σ : Sg) (l1 : Int32) (l2 : Int32) (l3 : Int32) (l4 : Int32) (Q : Sg → Prop) : Prop :=
  let σ1 := wI σ 0 26 ((sI σ 0 26) - (1 : Int32))
  wX11_leave σ1 l1 l2 l3 l4 (fun σ2 =>
  (l3 = (28 : Int32) → (
    (l4 = (1 : Int32) → (
      vp_in l1 220 ∧
      vp_in (sI σ2 25 (l1).toNatClampNeg) 220 ∧
      let σ3 := wI σ2 10 ((sI σ2 25 (l1).toNatClampNeg)).toNatClampNeg (3 : Int32)
      vp_in l1 220 ∧
      vp_in (sI σ2 25 (l1).toNatClampNeg) 220 ∧
      let σ4 := wI σ3 11 ((sI σ2 25 (l1).toNatClampNeg)).toNatClampNeg (sI σ2 0 41)
      vp_in l1 220 ∧
      vp_in (sI σ2 25 (l1).toNatClampNeg) 220 ∧
      let σ5 := wI σ4 12 ((sI σ2 25 (l1).toNatClampNeg)).toNatClampNeg (sI σ2 0 42)
      Q σ5
    )) ∧ (¬ l4 = (1 : Int32) → (
      Q σ2
    ))
  )) ∧ (¬ l3 = (28 : Int32) → (
    Q σ2
  ))
  )
set_option maxRecDepth 100000 in
set_option maxHeartbeats 4000000 in
theorem xX11_upFailure_188 {G : Gx} (hG : gLy G = LyM) {σ : Sg} {l1 : Int32} {l2 : Int32} {l3 : Int32} {l4 : Int32} {Q : Sg → Prop} (h : wX11_upFailure_188 σ l1 l2 l3 l4 Q) : X G mX11_upFailure 3 188 [(0, .ref (gad G 0)), (1, .int l1), (2, .int l2), (3, .int l3), (4, .int l4)] [] σ (qv Q) := by
  unfold wX11_upFailure_188 at h
  refine x_aload_n dX11_upFailure_188 rfl 0 rfl ?_
  refine x_dup dX11_upFailure_189 rfl ?_
  refine x_getIv hG fg_X11_174 dX11_upFailure_190 rfl ?_
  refine x_iconst (v := (1 : Int32)) dX11_upFailure_193 rfl ?_
  refine x_isub dX11_upFailure_194 ?_
  refine x_putI hG fp_X11_174 dX11_upFailure_195 ?_
  refine x_aload_n dX11_upFailure_198 rfl 0 rfl ?_
  refine x_iload_n dX11_upFailure_199 rfl 1 rfl ?_
  refine x_iload_n dX11_upFailure_200 rfl 2 rfl ?_
  refine x_iload_n dX11_upFailure_201 rfl 3 rfl ?_
  refine x_iload dX11_upFailure_202 4 rfl ?_
  refine x_callVv [_, _, _, _] hG mv_X11_leave lk_X11_252 rfl rfl rfl ⟨by decide, by decide⟩ rfl (Nat.le_of_ble_eq_true rfl) dX11_upFailure_204 (ct_X11_leave hG h) (fun σ2 h => ?_)
  refine x_iload_n dX11_upFailure_207 rfl 3 rfl ?_
  refine x_bipush (v := (28 : Int32)) dX11_upFailure_208 rfl ?_
  refine x_icmp_ne dX11_upFailure_210 261 (by decide) (fun c => ?_) (fun c => ?_)
  · replace h := h.1 c
    refine x_iload dX11_upFailure_213 4 rfl ?_
    refine x_iconst (v := (1 : Int32)) dX11_upFailure_215 rfl ?_
    refine x_icmp_ne dX11_upFailure_216 261 (by decide) (fun c => ?_) (fun c => ?_)
    · replace h := h.1 c
      refine x_aload_n dX11_upFailure_219 rfl 0 rfl ?_
      refine x_getR (q := 10) hG fg_X11_37 dX11_upFailure_220 ?_
      refine x_aload_n dX11_upFailure_223 rfl 0 rfl ?_
      refine x_getR (q := 25) hG fg_X11_82 dX11_upFailure_224 ?_
      refine x_iload_n dX11_upFailure_227 rfl 1 rfl ?_
      refine x_ialdv hG rfl dX11_upFailure_228 h.1 rfl ?_
      replace h := h.2
      refine x_iconst (v := (3 : Int32)) dX11_upFailure_229 rfl ?_
      refine x_iast hG rfl dX11_upFailure_230 h.1 ?_
      replace h := h.2
      refine x_aload_n dX11_upFailure_231 rfl 0 rfl ?_
      refine x_getR (q := 11) hG fg_X11_40 dX11_upFailure_232 ?_
      refine x_aload_n dX11_upFailure_235 rfl 0 rfl ?_
      refine x_getR (q := 25) hG fg_X11_82 dX11_upFailure_236 ?_
      refine x_iload_n dX11_upFailure_239 rfl 1 rfl ?_
      refine x_ialdv hG rfl dX11_upFailure_240 h.1 (rd_no (by decide) rfl) ?_
      replace h := h.2
      refine x_aload_n dX11_upFailure_241 rfl 0 rfl ?_
      refine x_getIv hG fg_X11_137 dX11_upFailure_242 (rd_no (by decide) rfl) ?_
      refine x_iast hG rfl dX11_upFailure_245 h.1 ?_
      replace h := h.2
      refine x_aload_n dX11_upFailure_246 rfl 0 rfl ?_
      refine x_getR (q := 12) hG fg_X11_43 dX11_upFailure_247 ?_
      refine x_aload_n dX11_upFailure_250 rfl 0 rfl ?_
      refine x_getR (q := 25) hG fg_X11_82 dX11_upFailure_251 ?_
      refine x_iload_n dX11_upFailure_254 rfl 1 rfl ?_
      refine x_ialdv hG rfl dX11_upFailure_255 h.1 (rd_no (by decide) (rd_no (by decide) rfl)) ?_
      replace h := h.2
      refine x_aload_n dX11_upFailure_256 rfl 0 rfl ?_
      refine x_getIv hG fg_X11_140 dX11_upFailure_257 (rd_no (by decide) (rd_no (by decide) rfl)) ?_
      refine x_iast hG rfl dX11_upFailure_260 h.1 ?_
      replace h := h.2
      exact x_vret rfl dX11_upFailure_261 ⟨rfl, h⟩
    · replace h := h.2 c
      exact x_vret rfl dX11_upFailure_261 ⟨rfl, h⟩
  · replace h := h.2 c
    exact x_vret rfl dX11_upFailure_261 ⟨rfl, h⟩
def wX11_upFailure_121 (σ : Sg) (l1 : Int32) (l2 : Int32) (l3 : Int32) (l4 : Int32) (Q : Sg → Prop) : Prop :=
  (l3 = (22 : Int32) → (
    (l4 = 0 → (
      vp_in l1 220 ∧
      let σ1 := wI σ 24 (l1).toNatClampNeg (sI σ 0 41)
      vp_in l1 220 ∧
      let σ2 := wI σ1 25 (l1).toNatClampNeg (sI σ 0 42)
      vp_in l1 220 ∧
      let σ3 := wI σ2 29 (l1).toNatClampNeg (sI σ 0 43)
      vp_in l1 220 ∧
      let σ4 := wI σ3 22 (l1).toNatClampNeg (2 : Int32)
      vp_in l2 60 ∧
      vp_in l1 220 ∧
      wX11_start σ4 (sI σ 3 (l2).toNatClampNeg) (sI σ 23 (l1).toNatClampNeg) (fun σ5 =>
      Q σ5
      )
    )) ∧ (¬ l4 = 0 → (
      wX11_upFailure_188 σ l1 l2 l3 l4 Q
    ))
  )) ∧ (¬ l3 = (22 : Int32) → (
    wX11_upFailure_188 σ l1 l2 l3 l4 Q
  ))
set_option maxRecDepth 100000 in
set_option maxHeartbeats 4000000 in
theorem xX11_upFailure_121 {G : Gx} (hG : gLy G = LyM) {σ : Sg} {l1 : Int32} {l2 : Int32} {l3 : Int32} {l4 : Int32} {Q : Sg → Prop} (h : wX11_upFailure_121 σ l1 l2 l3 l4 Q) : X G mX11_upFailure 3 121 [(0, .ref (gad G 0)), (1, .int l1), (2, .int l2), (3, .int l3), (4, .int l4)] [] σ (qv Q) := by
  unfold wX11_upFailure_121 at h
  refine x_iload_n dX11_upFailure_121 rfl 3 rfl ?_
  refine x_bipush (v := (22 : Int32)) dX11_upFailure_122 rfl ?_
  refine x_icmp_ne dX11_upFailure_124 188 (by decide) (fun c => ?_) (fun c => ?_)
  · replace h := h.1 c
    refine x_iload dX11_upFailure_127 4 rfl ?_
    refine x_if_ne dX11_upFailure_129 188 (by decide) (fun c => ?_) (fun c => ?_)
    · replace h := h.1 c
      refine x_aload_n dX11_upFailure_132 rfl 0 rfl ?_
      refine x_getR (q := 24) hG fg_X11_79 dX11_upFailure_133 ?_
      refine x_iload_n dX11_upFailure_136 rfl 1 rfl ?_
      refine x_aload_n dX11_upFailure_137 rfl 0 rfl ?_
      refine x_getIv hG fg_X11_137 dX11_upFailure_138 rfl ?_
      refine x_iast hG rfl dX11_upFailure_141 h.1 ?_
      replace h := h.2
      refine x_aload_n dX11_upFailure_142 rfl 0 rfl ?_
      refine x_getR (q := 25) hG fg_X11_82 dX11_upFailure_143 ?_
      refine x_iload_n dX11_upFailure_146 rfl 1 rfl ?_
      refine x_aload_n dX11_upFailure_147 rfl 0 rfl ?_
      refine x_getIv hG fg_X11_140 dX11_upFailure_148 (rd_no (by decide) rfl) ?_
      refine x_iast hG rfl dX11_upFailure_151 h.1 ?_
      replace h := h.2
      refine x_aload_n dX11_upFailure_152 rfl 0 rfl ?_
      refine x_getR (q := 29) hG fg_X11_94 dX11_upFailure_153 ?_
      refine x_iload_n dX11_upFailure_156 rfl 1 rfl ?_
      refine x_aload_n dX11_upFailure_157 rfl 0 rfl ?_
      refine x_getIv hG fg_X11_143 dX11_upFailure_158 (rd_no (by decide) (rd_no (by decide) rfl)) ?_
      refine x_iast hG rfl dX11_upFailure_161 h.1 ?_
      replace h := h.2
      refine x_aload_n dX11_upFailure_162 rfl 0 rfl ?_
      refine x_getR (q := 22) hG fg_X11_73 dX11_upFailure_163 ?_
      refine x_iload_n dX11_upFailure_166 rfl 1 rfl ?_
      refine x_iconst (v := (2 : Int32)) dX11_upFailure_167 rfl ?_
      refine x_iast hG rfl dX11_upFailure_168 h.1 ?_
      replace h := h.2
      refine x_aload_n dX11_upFailure_169 rfl 0 rfl ?_
      refine x_aload_n dX11_upFailure_170 rfl 0 rfl ?_
      refine x_getR (q := 3) hG fg_X11_16 dX11_upFailure_171 ?_
      refine x_iload_n dX11_upFailure_174 rfl 2 rfl ?_
      refine x_ialdv hG rfl dX11_upFailure_175 h.1 (rd_no (by decide) (rd_no (by decide) (rd_no (by decide) (rd_no (by decide) rfl)))) ?_
      replace h := h.2
      refine x_aload_n dX11_upFailure_176 rfl 0 rfl ?_
      refine x_getR (q := 23) hG fg_X11_76 dX11_upFailure_177 ?_
      refine x_iload_n dX11_upFailure_180 rfl 1 rfl ?_
      refine x_ialdv hG rfl dX11_upFailure_181 h.1 (rd_no (by decide) (rd_no (by decide) (rd_no (by decide) (rd_no (by decide) rfl)))) ?_
      replace h := h.2
      refine x_callVv [_, _] hG mv_X11_start lk_X11_177 rfl rfl rfl ⟨by decide, by decide⟩ rfl (Nat.le_of_ble_eq_true rfl) dX11_upFailure_182 (ct_X11_start hG h) (fun σ5 h => ?_)
      refine x_goto dX11_upFailure_185 261 (by decide) ?_
      exact x_vret rfl dX11_upFailure_261 ⟨rfl, h⟩
    · replace h := h.2 c
      exact x_sub [0, 1, 2, 3, 4] rfl (xX11_upFailure_188 hG h)
  · replace h := h.2 c
    exact x_sub [0, 1, 2, 3, 4] rfl (xX11_upFailure_188 hG h)
def wX11_upFailure (σ : Sg) (Q : Sg → Prop) : Prop :=
  vp_in ((sI σ 0 26) - (1 : Int32)) 220 ∧
  let x1 := (sI σ 21 (((sI σ 0 26) - (1 : Int32))).toNatClampNeg)
  vp_in x1 60 ∧
  vp_in ((sI σ 0 26) - (1 : Int32)) 220 ∧
  let x2 := (sI σ 22 (((sI σ 0 26) - (1 : Int32))).toNatClampNeg)
  ((sI σ 1 (x1).toNatClampNeg) = (21 : Int32) → (
    (x2 = 0 → (
      vp_in x1 60 ∧
      ((sI σ 3 (x1).toNatClampNeg) = 0 → (
        wX11_upFailure_62 σ ((sI σ 0 26) - (1 : Int32)) x1 Q
      )) ∧ (¬ (sI σ 3 (x1).toNatClampNeg) = 0 → (
        vp_in x1 60 ∧
        ((sI σ 3 (x1).toNatClampNeg) = (sI σ 0 41) → (
          wX11_upFailure_62 σ ((sI σ 0 26) - (1 : Int32)) x1 Q
        )) ∧ (¬ (sI σ 3 (x1).toNatClampNeg) = (sI σ 0 41) → (
          wX11_upFailure_121 σ ((sI σ 0 26) - (1 : Int32)) x1 (sI σ 1 (x1).toNatClampNeg) x2 Q
        ))
      ))
    )) ∧ (¬ x2 = 0 → (
      wX11_upFailure_121 σ ((sI σ 0 26) - (1 : Int32)) x1 (sI σ 1 (x1).toNatClampNeg) x2 Q
    ))
  )) ∧ (¬ (sI σ 1 (x1).toNatClampNeg) = (21 : Int32) → (
    wX11_upFailure_121 σ ((sI σ 0 26) - (1 : Int32)) x1 (sI σ 1 (x1).toNatClampNeg) x2 Q
  ))
set_option maxRecDepth 100000 in
set_option maxHeartbeats 4000000 in
theorem xX11_upFailure {G : Gx} (hG : gLy G = LyM) {σ : Sg} {Q : Sg → Prop} (h : wX11_upFailure σ Q) : X G mX11_upFailure 3 0 [(0, .ref (gad G 0))] [] σ (qv Q) := by
  unfold wX11_upFailure at h
  refine x_aload_n dX11_upFailure_0 rfl 0 rfl ?_
  refine x_getIv hG fg_X11_174 dX11_upFailure_1 rfl ?_
  refine x_iconst (v := (1 : Int32)) dX11_upFailure_4 rfl ?_
  refine x_isub dX11_upFailure_5 ?_
  refine x_istore_n dX11_upFailure_6 rfl (Nat.le_of_ble_eq_true rfl) (lv' := [(1, _), (0, _)]) rfl ?_
  refine x_aload_n dX11_upFailure_7 rfl 1 rfl ?_
  refine x_getR (q := 21) hG fg_X11_70 dX11_upFailure_8 ?_
  refine x_iload_n dX11_upFailure_11 rfl 0 rfl ?_
  refine x_ialdv hG rfl dX11_upFailure_12 h.1 rfl ?_
  replace h := h.2
  refine x_istore_n dX11_upFailure_13 rfl (Nat.le_of_ble_eq_true rfl) (lv' := [(2, _), (1, _), (0, _)]) rfl ?_
  refine x_aload_n dX11_upFailure_14 rfl 2 rfl ?_
  refine x_getR (q := 1) hG fg_X11_7 dX11_upFailure_15 ?_
  refine x_iload_n dX11_upFailure_18 rfl 0 rfl ?_
  refine x_ialdv hG rfl dX11_upFailure_19 h.1 rfl ?_
  replace h := h.2
  refine x_istore_n dX11_upFailure_20 rfl (Nat.le_of_ble_eq_true rfl) (lv' := [(3, _), (2, _), (1, _), (0, _)]) rfl ?_
  refine x_aload_n dX11_upFailure_21 rfl 3 rfl ?_
  refine x_getR (q := 22) hG fg_X11_73 dX11_upFailure_22 ?_
  refine x_iload_n dX11_upFailure_25 rfl 2 rfl ?_
  refine x_ialdv hG rfl dX11_upFailure_26 h.1 rfl ?_
  replace h := h.2
  refine x_istore dX11_upFailure_27 (Nat.le_of_ble_eq_true rfl) (lv' := [(4, _), (3, _), (2, _), (1, _), (0, _)]) rfl ?_
  refine x_iload_n dX11_upFailure_29 rfl 1 rfl ?_
  refine x_bipush (v := (21 : Int32)) dX11_upFailure_30 rfl ?_
  refine x_icmp_ne dX11_upFailure_32 121 (by decide) (fun c => ?_) (fun c => ?_)
  · replace h := h.1 c
    refine x_iload dX11_upFailure_35 0 rfl ?_
    refine x_if_ne dX11_upFailure_37 121 (by decide) (fun c => ?_) (fun c => ?_)
    · replace h := h.1 c
      refine x_aload_n dX11_upFailure_40 rfl 4 rfl ?_
      refine x_getR (q := 3) hG fg_X11_16 dX11_upFailure_41 ?_
      refine x_iload_n dX11_upFailure_44 rfl 2 rfl ?_
      refine x_ialdv hG rfl dX11_upFailure_45 h.1 rfl ?_
      replace h := h.2
      refine x_if_eq dX11_upFailure_46 62 (by decide) (fun c => ?_) (fun c => ?_)
      · replace h := h.1 c
        exact x_sub [4, 3, 2] rfl (xX11_upFailure_62 hG h)
      · replace h := h.2 c
        refine x_aload_n dX11_upFailure_49 rfl 4 rfl ?_
        refine x_getR (q := 3) hG fg_X11_16 dX11_upFailure_50 ?_
        refine x_iload_n dX11_upFailure_53 rfl 2 rfl ?_
        refine x_ialdv hG rfl dX11_upFailure_54 h.1 rfl ?_
        replace h := h.2
        refine x_aload_n dX11_upFailure_55 rfl 4 rfl ?_
        refine x_getIv hG fg_X11_137 dX11_upFailure_56 rfl ?_
        refine x_icmp_ne dX11_upFailure_59 121 (by decide) (fun c => ?_) (fun c => ?_)
        · replace h := h.1 c
          exact x_sub [4, 3, 2] rfl (xX11_upFailure_62 hG h)
        · replace h := h.2 c
          exact x_sub [4, 3, 2, 1, 0] rfl (xX11_upFailure_121 hG h)
    · replace h := h.2 c
      exact x_sub [4, 3, 2, 1, 0] rfl (xX11_upFailure_121 hG h)
  · replace h := h.2 c
    exact x_sub [4, 3, 2, 1, 0] rfl (xX11_upFailure_121 hG h)
theorem ct_X11_upFailure {G : Gx} (hG : gLy G = LyM) {σ : Sg} {Q : Sg → Prop} (h : wX11_upFailure σ Q) : CT G mX11_upFailure 3 [.ref (gad G 0)] σ (qv Q) := ct_of rfl (Nat.le_of_ble_eq_true rfl) rfl (xX11_upFailure hG h)
/-! X11_run run -/
def wX11_run_363 (σ : Sg) (l4 : Int32) (s1 : Int32) (Q : Int32 → Sg → Prop) : Prop :=
  let σ1 := wI σ 0 52 s1
  (l4 = 0 → (
    Q ((-10 : Int32) - (sI σ 0 41)) σ1
  )) ∧ (¬ l4 = 0 → (
    Q (sI σ 0 39) σ1
  ))
set_option maxRecDepth 100000 in
set_option maxHeartbeats 4000000 in
theorem xX11_run_363 {G : Gx} (hG : gLy G = LyM) {σ : Sg} {l4 : Int32} {s1 : Int32} {Q : Int32 → Sg → Prop} (h : wX11_run_363 σ l4 s1 Q) : X G mX11_run 8 363 [(0, .ref (gad G 0)), (4, .int l4)] [.int s1, .ref (gad G 0)] σ (qi Q) := by
  unfold wX11_run_363 at h
  refine x_putI hG fp_X11_97 dX11_run_363 ?_
  refine x_iload dX11_run_366 1 rfl ?_
  refine x_if_eq dX11_run_368 378 (by decide) (fun c => ?_) (fun c => ?_)
  · replace h := h.1 c
    refine x_bipush (v := (-10 : Int32)) dX11_run_378 rfl ?_
    refine x_aload_n dX11_run_380 rfl 0 rfl ?_
    refine x_getIv hG fg_X11_137 dX11_run_381 (rd_nj (by decide) rfl) ?_
    refine x_isub dX11_run_384 ?_
    exact x_iret rfl dX11_run_385 ⟨_, rfl, h⟩
  · replace h := h.2 c
    refine x_aload_n dX11_run_371 rfl 0 rfl ?_
    refine x_getIv hG fg_X11_125 dX11_run_372 (rd_nj (by decide) rfl) ?_
    refine x_goto dX11_run_375 385 (by decide) ?_
    exact x_iret rfl dX11_run_385 ⟨_, rfl, h⟩
def wX11_run_346 (σ : Sg) (l4 : Int32) (s1 : Int32) (Q : Int32 → Sg → Prop) : Prop :=
  let σ1 := wI σ 0 51 s1
  (l4 = 0 → (
    wX11_run_363 σ1 l4 (sI σ 0 43) Q
  )) ∧ (¬ l4 = 0 → (
    wX11_run_363 σ1 l4 (-1 : Int32) Q
  ))
set_option maxRecDepth 100000 in
set_option maxHeartbeats 4000000 in
theorem xX11_run_346 {G : Gx} (hG : gLy G = LyM) {σ : Sg} {l4 : Int32} {s1 : Int32} {Q : Int32 → Sg → Prop} (h : wX11_run_346 σ l4 s1 Q) : X G mX11_run 8 346 [(0, .ref (gad G 0)), (4, .int l4)] [.int s1, .ref (gad G 0)] σ (qi Q) := by
  unfold wX11_run_346 at h
  refine x_putI hG fp_X11_282 dX11_run_346 ?_
  refine x_aload_n dX11_run_349 rfl 0 rfl ?_
  refine x_iload dX11_run_350 1 rfl ?_
  refine x_if_eq dX11_run_352 359 (by decide) (fun c => ?_) (fun c => ?_)
  · replace h := h.1 c
    refine x_aload_n dX11_run_359 rfl 0 rfl ?_
    refine x_getIv hG fg_X11_143 dX11_run_360 (rd_nj (by decide) rfl) ?_
    exact x_sub [0, 1] rfl (xX11_run_363 hG h)
  · replace h := h.2 c
    refine x_iconst (v := (-1 : Int32)) dX11_run_355 rfl ?_
    refine x_goto dX11_run_356 363 (by decide) ?_
    exact x_sub [0, 1] rfl (xX11_run_363 hG h)
def wX11_run_329 (σ : Sg) (l4 : Int32) (s1 : Int32) (Q : Int32 → Sg → Prop) : Prop :=
  let σ1 := wI σ 0 50 s1
  (l4 = 0 → (
    wX11_run_346 σ1 l4 (sI σ 0 42) Q
  )) ∧ (¬ l4 = 0 → (
    wX11_run_346 σ1 l4 (0 : Int32) Q
  ))
set_option maxRecDepth 100000 in
set_option maxHeartbeats 4000000 in
theorem xX11_run_329 {G : Gx} (hG : gLy G = LyM) {σ : Sg} {l4 : Int32} {s1 : Int32} {Q : Int32 → Sg → Prop} (h : wX11_run_329 σ l4 s1 Q) : X G mX11_run 8 329 [(0, .ref (gad G 0)), (4, .int l4)] [.int s1, .ref (gad G 0)] σ (qi Q) := by
  unfold wX11_run_329 at h
  refine x_putI hG fp_X11_279 dX11_run_329 ?_
  refine x_aload_n dX11_run_332 rfl 0 rfl ?_
  refine x_iload dX11_run_333 1 rfl ?_
  refine x_if_eq dX11_run_335 342 (by decide) (fun c => ?_) (fun c => ?_)
  · replace h := h.1 c
    refine x_aload_n dX11_run_342 rfl 0 rfl ?_
    refine x_getIv hG fg_X11_140 dX11_run_343 (rd_nj (by decide) rfl) ?_
    exact x_sub [0, 1] rfl (xX11_run_346 hG h)
  · replace h := h.2 c
    refine x_iconst (v := (0 : Int32)) dX11_run_338 rfl ?_
    refine x_goto dX11_run_339 346 (by decide) ?_
    exact x_sub [0, 1] rfl (xX11_run_346 hG h)
def wX11_run_312 (σ : Sg) (l4 : Int32) (s1 : Int32) (Q : Int32 → Sg → Prop) : Prop :=
  let σ1 := wI σ 0 49 s1
  (l4 = 0 → (
    wX11_run_329 σ1 l4 (sI σ 0 41) Q
  )) ∧ (¬ l4 = 0 → (
    wX11_run_329 σ1 l4 (0 : Int32) Q
  ))
set_option maxRecDepth 100000 in
set_option maxHeartbeats 4000000 in
theorem xX11_run_312 {G : Gx} (hG : gLy G = LyM) {σ : Sg} {l4 : Int32} {s1 : Int32} {Q : Int32 → Sg → Prop} (h : wX11_run_312 σ l4 s1 Q) : X G mX11_run 8 312 [(0, .ref (gad G 0)), (4, .int l4)] [.int s1, .ref (gad G 0)] σ (qi Q) := by
  unfold wX11_run_312 at h
  refine x_putI hG fp_X11_276 dX11_run_312 ?_
  refine x_aload_n dX11_run_315 rfl 0 rfl ?_
  refine x_iload dX11_run_316 1 rfl ?_
  refine x_if_eq dX11_run_318 325 (by decide) (fun c => ?_) (fun c => ?_)
  · replace h := h.1 c
    refine x_aload_n dX11_run_325 rfl 0 rfl ?_
    refine x_getIv hG fg_X11_137 dX11_run_326 (rd_nj (by decide) rfl) ?_
    exact x_sub [0, 1] rfl (xX11_run_329 hG h)
  · replace h := h.2 c
    refine x_iconst (v := (0 : Int32)) dX11_run_321 rfl ?_
    refine x_goto dX11_run_322 329 (by decide) ?_
    exact x_sub [0, 1] rfl (xX11_run_329 hG h)
def wX11_run_295 (σ : Sg) (l4 : Int32) (s1 : Int32) (Q : Int32 → Sg → Prop) : Prop :=
  let σ1 := wI σ 0 48 s1
  (l4 = 0 → (
    wX11_run_312 σ1 l4 (0 : Int32) Q
  )) ∧ (¬ l4 = 0 → (
    wX11_run_312 σ1 l4 (sI σ 0 40) Q
  ))
set_option maxRecDepth 100000 in
set_option maxHeartbeats 4000000 in
theorem xX11_run_295 {G : Gx} (hG : gLy G = LyM) {σ : Sg} {l4 : Int32} {s1 : Int32} {Q : Int32 → Sg → Prop} (h : wX11_run_295 σ l4 s1 Q) : X G mX11_run 8 295 [(0, .ref (gad G 0)), (4, .int l4)] [.int s1, .ref (gad G 0)] σ (qi Q) := by
  unfold wX11_run_295 at h
  refine x_putI hG fp_X11_101 dX11_run_295 ?_
  refine x_aload_n dX11_run_298 rfl 0 rfl ?_
  refine x_iload dX11_run_299 1 rfl ?_
  refine x_if_eq dX11_run_301 311 (by decide) (fun c => ?_) (fun c => ?_)
  · replace h := h.1 c
    refine x_iconst (v := (0 : Int32)) dX11_run_311 rfl ?_
    exact x_sub [0, 1] rfl (xX11_run_312 hG h)
  · replace h := h.2 c
    refine x_aload_n dX11_run_304 rfl 0 rfl ?_
    refine x_getIv hG fg_X11_128 dX11_run_305 (rd_nj (by decide) rfl) ?_
    refine x_goto dX11_run_308 312 (by decide) ?_
    exact x_sub [0, 1] rfl (xX11_run_312 hG h)
def wX11_run_279 (σ : Sg) (s0 : Int32) (Q : Int32 → Sg → Prop) : Prop :=
  (s0 = 0 → (
    wX11_run_295 σ s0 (1 : Int32) Q
  )) ∧ (¬ s0 = 0 → (
    wX11_run_295 σ s0 (sI σ 0 39) Q
  ))
set_option maxRecDepth 100000 in
set_option maxHeartbeats 4000000 in
theorem xX11_run_279 {G : Gx} (hG : gLy G = LyM) {σ : Sg} {s0 : Int32} {Q : Int32 → Sg → Prop} (h : wX11_run_279 σ s0 Q) : X G mX11_run 8 279 [(0, .ref (gad G 0))] [.int s0] σ (qi Q) := by
  unfold wX11_run_279 at h
  refine x_istore dX11_run_279 (Nat.le_of_ble_eq_true rfl) (lv' := [(4, _), (0, _)]) rfl ?_
  refine x_aload_n dX11_run_281 rfl 1 rfl ?_
  refine x_iload dX11_run_282 0 rfl ?_
  refine x_if_eq dX11_run_284 294 (by decide) (fun c => ?_) (fun c => ?_)
  · replace h := h.1 c
    refine x_iconst (v := (1 : Int32)) dX11_run_294 rfl ?_
    exact x_sub [1, 0] rfl (xX11_run_295 hG h)
  · replace h := h.2 c
    refine x_aload_n dX11_run_287 rfl 1 rfl ?_
    refine x_getIv hG fg_X11_125 dX11_run_288 rfl ?_
    refine x_goto dX11_run_291 295 (by decide) ?_
    exact x_sub [1, 0] rfl (xX11_run_295 hG h)
def wX11_run_137 : Nat → Sg → Int32 → (Int32 → Sg → Prop) → Prop
  | 0 => fun _ _ _ => False
  | n + 1 => fun σ l3 Q =>
  (l3 = 0 → (
    let σ1 := wI σ 0 53 (sI σ 0 45)
    let σ2 := wI σ1 0 54 (sI σ 0 44)
    ((sI σ 0 36) = (1 : Int32) → (
      wX11_run_279 σ2 (1 : Int32) Q
    )) ∧ (¬ (sI σ 0 36) = (1 : Int32) → (
      wX11_run_279 σ2 (0 : Int32) Q
    ))
  )) ∧ (¬ l3 = 0 → (
    ((sI σ 0 36) = 0 → (
      wX11_begin σ (fun σ3 =>
      wX11_run_137 n σ3 l3 Q
      )
    )) ∧ (¬ (sI σ 0 36) = 0 → (
      ((sI σ 0 26) = 0 → (
        wX11_run_137 n σ (0 : Int32) Q
      )) ∧ (¬ (sI σ 0 26) = 0 → (
        ((sI σ 0 36) = (1 : Int32) → (
          wX11_up σ (fun σ4 =>
          wX11_run_137 n σ4 l3 Q
          )
        )) ∧ (¬ (sI σ 0 36) = (1 : Int32) → (
          ((sI σ 0 36) = (2 : Int32) → (
            wX11_upFailure σ (fun σ5 =>
            wX11_run_137 n σ5 l3 Q
            )
          )) ∧ (¬ (sI σ 0 36) = (2 : Int32) → (
            let σ6 := wI σ 0 26 ((sI σ 0 26) - (1 : Int32))
            vp_in ((sI σ 0 26) - (1 : Int32)) 220 ∧
            vp_in ((sI σ 0 26) - (1 : Int32)) 220 ∧
            vp_in (sI σ 21 (((sI σ 0 26) - (1 : Int32))).toNatClampNeg) 60 ∧
            vp_in ((sI σ 0 26) - (1 : Int32)) 220 ∧
            wX11_leave σ6 ((sI σ 0 26) - (1 : Int32)) (sI σ 21 (((sI σ 0 26) - (1 : Int32))).toNatClampNeg) (sI σ 1 ((sI σ 21 (((sI σ 0 26) - (1 : Int32))).toNatClampNeg)).toNatClampNeg) (sI σ 22 (((sI σ 0 26) - (1 : Int32))).toNatClampNeg) (fun σ7 =>
            wX11_run_137 n σ7 l3 Q
            )
          ))
        ))
      ))
    ))
  ))
set_option maxRecDepth 100000 in
set_option maxHeartbeats 4000000 in
theorem xX11_run_137 {G : Gx} (hG : gLy G = LyM) {Q : Int32 → Sg → Prop} (n : Nat) : ∀ {σ : Sg} {l3 : Int32}, wX11_run_137 n σ l3 Q → X G mX11_run 8 137 [(0, .ref (gad G 0)), (3, .int l3)] [] σ (qi Q) := by
  induction n with
  | zero => intro σ l3 h; exact False.elim h
  | succ n ih =>
  intro σ l3 h
  unfold wX11_run_137 at h
  refine x_iload_n dX11_run_137 rfl 1 rfl ?_
  refine x_if_eq dX11_run_138 250 (by decide) (fun c => ?_) (fun c => ?_)
  · replace h := h.1 c
    refine x_aload_n dX11_run_250 rfl 0 rfl ?_
    refine x_aload_n dX11_run_251 rfl 0 rfl ?_
    refine x_getIv hG fg_X11_162 dX11_run_252 rfl ?_
    refine x_putI hG fp_X11_270 dX11_run_255 ?_
    refine x_aload_n dX11_run_258 rfl 0 rfl ?_
    refine x_aload_n dX11_run_259 rfl 0 rfl ?_
    refine x_getIv hG fg_X11_146 dX11_run_260 (rd_nj (by decide) rfl) ?_
    refine x_putI hG fp_X11_273 dX11_run_263 ?_
    refine x_aload_n dX11_run_266 rfl 0 rfl ?_
    refine x_getIv hG fg_X11_122 dX11_run_267 (rd_nj (by decide) (rd_nj (by decide) rfl)) ?_
    refine x_iconst (v := (1 : Int32)) dX11_run_270 rfl ?_
    refine x_icmp_ne dX11_run_271 278 (by decide) (fun c => ?_) (fun c => ?_)
    · replace h := h.1 c
      refine x_iconst (v := (1 : Int32)) dX11_run_274 rfl ?_
      refine x_goto dX11_run_275 279 (by decide) ?_
      exact x_sub [0] rfl (xX11_run_279 hG h)
    · replace h := h.2 c
      refine x_iconst (v := (0 : Int32)) dX11_run_278 rfl ?_
      exact x_sub [0] rfl (xX11_run_279 hG h)
  · replace h := h.2 c
    refine x_aload_n dX11_run_141 rfl 0 rfl ?_
    refine x_getIv hG fg_X11_122 dX11_run_142 rfl ?_
    refine x_if_ne dX11_run_145 155 (by decide) (fun c => ?_) (fun c => ?_)
    · replace h := h.1 c
      refine x_aload_n dX11_run_148 rfl 0 rfl ?_
      refine x_callVv [] hG mv_X11_begin lk_X11_261 rfl rfl rfl ⟨by decide, by decide⟩ rfl (Nat.le_of_ble_eq_true rfl) dX11_run_149 (ct_X11_begin hG h) (fun σ3 h => ?_)
      refine x_goto dX11_run_152 137 (by decide) ?_
      exact x_sub [0, 1] rfl (ih h)
    · replace h := h.2 c
      refine x_aload_n dX11_run_155 rfl 0 rfl ?_
      refine x_getIv hG fg_X11_174 dX11_run_156 rfl ?_
      refine x_if_ne dX11_run_159 167 (by decide) (fun c => ?_) (fun c => ?_)
      · replace h := h.1 c
        refine x_iconst (v := (0 : Int32)) dX11_run_162 rfl ?_
        refine x_istore_n dX11_run_163 rfl (Nat.le_of_ble_eq_true rfl) (lv' := [(3, _), (0, _)]) rfl ?_
        refine x_goto dX11_run_164 137 (by decide) ?_
        exact x_sub [1, 0] rfl (ih h)
      · replace h := h.2 c
        refine x_aload_n dX11_run_167 rfl 0 rfl ?_
        refine x_getIv hG fg_X11_122 dX11_run_168 rfl ?_
        refine x_iconst (v := (1 : Int32)) dX11_run_171 rfl ?_
        refine x_icmp_ne dX11_run_172 182 (by decide) (fun c => ?_) (fun c => ?_)
        · replace h := h.1 c
          refine x_aload_n dX11_run_175 rfl 0 rfl ?_
          refine x_callVv [] hG mv_X11_up lk_X11_264 rfl rfl rfl ⟨by decide, by decide⟩ rfl (Nat.le_of_ble_eq_true rfl) dX11_run_176 (ct_X11_up hG h) (fun σ4 h => ?_)
          refine x_goto dX11_run_179 137 (by decide) ?_
          exact x_sub [0, 1] rfl (ih h)
        · replace h := h.2 c
          refine x_aload_n dX11_run_182 rfl 0 rfl ?_
          refine x_getIv hG fg_X11_122 dX11_run_183 rfl ?_
          refine x_iconst (v := (2 : Int32)) dX11_run_186 rfl ?_
          refine x_icmp_ne dX11_run_187 197 (by decide) (fun c => ?_) (fun c => ?_)
          · replace h := h.1 c
            refine x_aload_n dX11_run_190 rfl 0 rfl ?_
            refine x_callVv [] hG mv_X11_upFailure lk_X11_267 rfl rfl rfl ⟨by decide, by decide⟩ rfl (Nat.le_of_ble_eq_true rfl) dX11_run_191 (ct_X11_upFailure hG h) (fun σ5 h => ?_)
            refine x_goto dX11_run_194 137 (by decide) ?_
            exact x_sub [0, 1] rfl (ih h)
          · replace h := h.2 c
            refine x_aload_n dX11_run_197 rfl 0 rfl ?_
            refine x_dup dX11_run_198 rfl ?_
            refine x_getIv hG fg_X11_174 dX11_run_199 rfl ?_
            refine x_iconst (v := (1 : Int32)) dX11_run_202 rfl ?_
            refine x_isub dX11_run_203 ?_
            refine x_putI hG fp_X11_174 dX11_run_204 ?_
            refine x_aload_n dX11_run_207 rfl 0 rfl ?_
            refine x_aload_n dX11_run_208 rfl 0 rfl ?_
            refine x_getIv hG fg_X11_174 dX11_run_209 rd_hit ?_
            refine x_aload_n dX11_run_212 rfl 0 rfl ?_
            refine x_getR (q := 21) hG fg_X11_70 dX11_run_213 ?_
            refine x_aload_n dX11_run_216 rfl 0 rfl ?_
            refine x_getIv hG fg_X11_174 dX11_run_217 rd_hit ?_
            refine x_ialdv hG rfl dX11_run_220 h.1 (rd_no (by decide) rfl) ?_
            replace h := h.2
            refine x_aload_n dX11_run_221 rfl 0 rfl ?_
            refine x_getR (q := 1) hG fg_X11_7 dX11_run_222 ?_
            refine x_aload_n dX11_run_225 rfl 0 rfl ?_
            refine x_getR (q := 21) hG fg_X11_70 dX11_run_226 ?_
            refine x_aload_n dX11_run_229 rfl 0 rfl ?_
            refine x_getIv hG fg_X11_174 dX11_run_230 rd_hit ?_
            refine x_ialdv hG rfl dX11_run_233 h.1 (rd_no (by decide) rfl) ?_
            replace h := h.2
            refine x_ialdv hG rfl dX11_run_234 h.1 (rd_no (by decide) rfl) ?_
            replace h := h.2
            refine x_aload_n dX11_run_235 rfl 0 rfl ?_
            refine x_getR (q := 22) hG fg_X11_73 dX11_run_236 ?_
            refine x_aload_n dX11_run_239 rfl 0 rfl ?_
            refine x_getIv hG fg_X11_174 dX11_run_240 rd_hit ?_
            refine x_ialdv hG rfl dX11_run_243 h.1 (rd_no (by decide) rfl) ?_
            replace h := h.2
            refine x_callVv [_, _, _, _] hG mv_X11_leave lk_X11_252 rfl rfl rfl ⟨by decide, by decide⟩ rfl (Nat.le_of_ble_eq_true rfl) dX11_run_244 (ct_X11_leave hG h) (fun σ7 h => ?_)
            refine x_goto dX11_run_247 137 (by decide) ?_
            exact x_sub [0, 1] rfl (ih h)
def wX11_run_100 : Nat → Sg → Int32 → Int32 → (Int32 → Sg → Prop) → Prop
  | 0 => fun _ _ _ _ => False
  | n + 1 => fun σ l1 l3 Q =>
  (l3 < (8 : Int32) → (
    vp_in l3 8 ∧
    let σ1 := wI σ 15 (l3).toNatClampNeg (1 : Int32)
    vp_in l3 8 ∧
    let σ2 := wI σ1 16 (l3).toNatClampNeg (0 : Int32)
    wX11_run_100 n σ2 l1 (l3 + (1 : Int32)) Q
  )) ∧ (¬ l3 < (8 : Int32) → (
    wX11_newFrame σ (fun r4 σ3 =>
    wX11_start σ3 l1 r4 (fun σ5 =>
    ∃ n, wX11_run_137 n σ5 (1 : Int32) Q
    )
    )
  ))
set_option maxRecDepth 100000 in
set_option maxHeartbeats 4000000 in
theorem xX11_run_100 {G : Gx} (hG : gLy G = LyM) {Q : Int32 → Sg → Prop} (n : Nat) : ∀ {σ : Sg} {l1 : Int32} {l3 : Int32}, wX11_run_100 n σ l1 l3 Q → X G mX11_run 8 100 [(0, .ref (gad G 0)), (1, .int l1), (3, .int l3)] [] σ (qi Q) := by
  induction n with
  | zero => intro σ l1 l3 h; exact False.elim h
  | succ n ih =>
  intro σ l1 l3 h
  unfold wX11_run_100 at h
  refine x_iload_n dX11_run_100 rfl 2 rfl ?_
  refine x_bipush (v := (8 : Int32)) dX11_run_101 rfl ?_
  refine x_icmp_ge dX11_run_103 126 (by decide) (fun c => ?_) (fun c => ?_)
  · replace h := h.1 c
    refine x_aload_n dX11_run_106 rfl 0 rfl ?_
    refine x_getR (q := 15) hG fg_X11_52 dX11_run_107 ?_
    refine x_iload_n dX11_run_110 rfl 2 rfl ?_
    refine x_iconst (v := (1 : Int32)) dX11_run_111 rfl ?_
    refine x_iast hG rfl dX11_run_112 h.1 ?_
    replace h := h.2
    refine x_aload_n dX11_run_113 rfl 0 rfl ?_
    refine x_getR (q := 16) hG fg_X11_55 dX11_run_114 ?_
    refine x_iload_n dX11_run_117 rfl 2 rfl ?_
    refine x_iconst (v := (0 : Int32)) dX11_run_118 rfl ?_
    refine x_iast hG rfl dX11_run_119 h.1 ?_
    replace h := h.2
    refine x_iinc dX11_run_120 2 rfl (v := _ + (1 : Int32)) rfl (Nat.le_of_ble_eq_true rfl) (lv' := [(3, _), (0, _), (1, _)]) rfl ?_
    refine x_goto dX11_run_123 100 (by decide) ?_
    exact x_sub [1, 2, 0] rfl (ih h)
  · replace h := h.2 c
    refine x_aload_n dX11_run_126 rfl 0 rfl ?_
    refine x_iload_n dX11_run_127 rfl 1 rfl ?_
    refine x_aload_n dX11_run_128 rfl 0 rfl ?_
    refine x_callVi [] hG mv_X11_newFrame lk_X11_239 rfl rfl rfl ⟨by decide, by decide⟩ rfl (Nat.le_of_ble_eq_true rfl) dX11_run_129 (ct_X11_newFrame hG h) (fun r4 σ3 h => ?_)
    refine x_callVv [_, _] hG mv_X11_start lk_X11_177 rfl rfl rfl ⟨by decide, by decide⟩ rfl (Nat.le_of_ble_eq_true rfl) dX11_run_132 (ct_X11_start hG h) (fun σ5 h => ?_)
    refine x_iconst (v := (1 : Int32)) dX11_run_135 rfl ?_
    refine x_istore_n dX11_run_136 rfl (Nat.le_of_ble_eq_true rfl) (lv' := [(3, _), (0, _), (1, _)]) rfl ?_
    obtain ⟨n, h⟩ := h
    exact x_sub [1, 0] rfl (xX11_run_137 hG n h)
def wX11_run (σ : Sg) (l1 : Int32) (l2 : Int32) (Q : Int32 → Sg → Prop) : Prop :=
  let σ1 := wI σ 0 55 (0 : Int32)
  wX11_noAct σ1 l1 (fun r3 σ2 =>
  (r3 = 0 → (
    wX11_in σ2 l2 (1 : Int32) (200 : Int32) (fun r5 σ4 =>
    (r5 = 0 → (
      Q (-102 : Int32) σ4
    )) ∧ (¬ r5 = 0 → (
      ((sI σ4 0 5) = (400 : Int32) → (
        Q (-104 : Int32) σ4
      )) ∧ (¬ (sI σ4 0 5) = (400 : Int32) → (
        let σ6 := wI σ4 0 5 ((sI σ4 0 5) + (1 : Int32))
        let σ7 := wI σ6 0 6 (0 : Int32)
        let σ8 := wI σ7 0 15 (0 : Int32)
        let σ9 := wI σ8 0 20 (0 : Int32)
        let σ10 := wI σ9 0 24 (0 : Int32)
        let σ11 := wI σ10 0 26 (0 : Int32)
        let σ12 := wI σ11 0 44 (0 : Int32)
        let σ13 := wI σ12 0 45 (0 : Int32)
        let σ14 := wI σ13 0 46 l2
        let σ15 := wI σ14 0 47 (0 : Int32)
        ∃ n, wX11_run_100 n σ15 l1 (0 : Int32) Q
      ))
    ))
    )
  )) ∧ (¬ r3 = 0 → (
    Q (-101 : Int32) σ2
  ))
  )
set_option maxRecDepth 100000 in
set_option maxHeartbeats 4000000 in
theorem xX11_run {G : Gx} (hG : gLy G = LyM) {σ : Sg} {l1 : Int32} {l2 : Int32} {Q : Int32 → Sg → Prop} (h : wX11_run σ l1 l2 Q) : X G mX11_run 8 0 [(0, .ref (gad G 0)), (1, .int l1), (2, .int l2)] [] σ (qi Q) := by
  unfold wX11_run at h
  refine x_aload_n dX11_run_0 rfl 0 rfl ?_
  refine x_iconst (v := (0 : Int32)) dX11_run_1 rfl ?_
  refine x_putI hG fp_X11_111 dX11_run_2 ?_
  refine x_aload_n dX11_run_5 rfl 0 rfl ?_
  refine x_iload_n dX11_run_6 rfl 1 rfl ?_
  refine x_callVi [_] hG mv_X11_noAct lk_X11_118 rfl rfl rfl ⟨by decide, by decide⟩ rfl (Nat.le_of_ble_eq_true rfl) dX11_run_7 (ct_X11_noAct hG h) (fun r3 σ2 h => ?_)
  refine x_if_eq dX11_run_10 16 (by decide) (fun c => ?_) (fun c => ?_)
  · replace h := h.1 c
    refine x_iload_n dX11_run_16 rfl 2 rfl ?_
    refine x_iconst (v := (1 : Int32)) dX11_run_17 rfl ?_
    refine x_sipush (v := (200 : Int32)) dX11_run_18 rfl ?_
    refine x_callSi [_, _, _] ms_X11_in lk_X11_107 rfl ⟨by decide, by decide⟩ rfl (Nat.le_of_ble_eq_true rfl) dX11_run_21 (ct_X11_in hG h) (fun r5 σ4 h => ?_)
    refine x_if_ne dX11_run_24 30 (by decide) (fun c => ?_) (fun c => ?_)
    · replace h := h.1 c
      refine x_bipush (v := (-102 : Int32)) dX11_run_27 rfl ?_
      exact x_iret rfl dX11_run_29 ⟨_, rfl, h⟩
    · replace h := h.2 c
      refine x_aload_n dX11_run_30 rfl 0 rfl ?_
      refine x_getIv hG fg_X11_258 dX11_run_31 rfl ?_
      refine x_sipush (v := (400 : Int32)) dX11_run_34 rfl ?_
      refine x_icmp_ne dX11_run_37 43 (by decide) (fun c => ?_) (fun c => ?_)
      · replace h := h.1 c
        refine x_bipush (v := (-104 : Int32)) dX11_run_40 rfl ?_
        exact x_iret rfl dX11_run_42 ⟨_, rfl, h⟩
      · replace h := h.2 c
        refine x_aload_n dX11_run_43 rfl 0 rfl ?_
        refine x_dup dX11_run_44 rfl ?_
        refine x_getIv hG fg_X11_258 dX11_run_45 rfl ?_
        refine x_iconst (v := (1 : Int32)) dX11_run_48 rfl ?_
        refine x_iadd dX11_run_49 ?_
        refine x_putI hG fp_X11_258 dX11_run_50 ?_
        refine x_aload_n dX11_run_53 rfl 0 rfl ?_
        refine x_iconst (v := (0 : Int32)) dX11_run_54 rfl ?_
        refine x_putI hG fp_X11_153 dX11_run_55 ?_
        refine x_aload_n dX11_run_58 rfl 0 rfl ?_
        refine x_iconst (v := (0 : Int32)) dX11_run_59 rfl ?_
        refine x_putI hG fp_X11_156 dX11_run_60 ?_
        refine x_aload_n dX11_run_63 rfl 0 rfl ?_
        refine x_iconst (v := (0 : Int32)) dX11_run_64 rfl ?_
        refine x_putI hG fp_X11_159 dX11_run_65 ?_
        refine x_aload_n dX11_run_68 rfl 0 rfl ?_
        refine x_iconst (v := (0 : Int32)) dX11_run_69 rfl ?_
        refine x_putI hG fp_X11_230 dX11_run_70 ?_
        refine x_aload_n dX11_run_73 rfl 0 rfl ?_
        refine x_iconst (v := (0 : Int32)) dX11_run_74 rfl ?_
        refine x_putI hG fp_X11_174 dX11_run_75 ?_
        refine x_aload_n dX11_run_78 rfl 0 rfl ?_
        refine x_iconst (v := (0 : Int32)) dX11_run_79 rfl ?_
        refine x_putI hG fp_X11_146 dX11_run_80 ?_
        refine x_aload_n dX11_run_83 rfl 0 rfl ?_
        refine x_iconst (v := (0 : Int32)) dX11_run_84 rfl ?_
        refine x_putI hG fp_X11_162 dX11_run_85 ?_
        refine x_aload_n dX11_run_88 rfl 0 rfl ?_
        refine x_iload_n dX11_run_89 rfl 2 rfl ?_
        refine x_putI hG fp_X11_165 dX11_run_90 ?_
        refine x_aload_n dX11_run_93 rfl 0 rfl ?_
        refine x_iconst (v := (0 : Int32)) dX11_run_94 rfl ?_
        refine x_putI hG fp_X11_236 dX11_run_95 ?_
        refine x_iconst (v := (0 : Int32)) dX11_run_98 rfl ?_
        refine x_istore_n dX11_run_99 rfl (Nat.le_of_ble_eq_true rfl) (lv' := [(3, _), (0, _), (1, _), (2, _)]) rfl ?_
        obtain ⟨n, h⟩ := h
        exact x_sub [1, 2, 0] rfl (xX11_run_100 hG n h)
  · replace h := h.2 c
    refine x_bipush (v := (-101 : Int32)) dX11_run_13 rfl ?_
    exact x_iret rfl dX11_run_15 ⟨_, rfl, h⟩
theorem ct_X11_run {G : Gx} (hG : gLy G = LyM) {σ : Sg} {l1 : Int32} {l2 : Int32} {Q : Int32 → Sg → Prop} (h : wX11_run σ l1 l2 Q) : CT G mX11_run 8 [.ref (gad G 0), .int l1, .int l2] σ (qi Q) := ct_of rfl (Nat.le_of_ble_eq_true rfl) rfl (xX11_run hG h)
