/-! the reference's calls: grudges, new boys, odds; who hears whom -/
theorem zu8_W {C : zC} (hw : zW C) {q v : Nat} (h : v ≤ 99) : zW (zu C 8 q v) := by
  obtain ⟨wb, wq, ww1, ww2, wh1, wh2, wo, wm, wB, wQ⟩ := id hw
  have e : ∀ f i, f ≠ 8 → zu C 8 q v f i = C f i := fun f i hf => zu_ne (by omega)
  refine ⟨?_, ?_, ?_, ?_, ?_, ?_, ?_, ?_, fun i hi => ?_, fun k hk => ?_⟩
  · rw [e 0 0 (by decide)]; exact wb
  · rw [e 0 1 (by decide)]; exact wq
  · rw [e 0 2 (by decide)]; exact ww1
  · rw [e 0 2 (by decide)]; exact ww2
  · rw [e 0 3 (by decide)]; exact wh1
  · rw [e 0 3 (by decide)]; exact wh2
  · rw [e 0 4 (by decide)]; exact wo
  · rw [e 0 5 (by decide)]; exact wm
  · rw [e 0 0 (by decide)] at hi
    rw [e 0 2 (by decide), e 0 3 (by decide), e 1 i (by decide), e 2 i (by decide), e 3 i (by decide), e 4 i (by decide)]
    exact wB i hi
  · rw [e 0 1 (by decide)] at hk
    rw [e 0 0 (by decide), e 6 k (by decide), e 7 k (by decide), e 9 k (by decide)]
    have := wQ k hk
    refine ⟨this.1, this.2.1, this.2.2.1, ?_, this.2.2.2.2⟩
    by_cases g : k = q
    · subst g; rw [zu_eq]; exact h
    · rw [zu_ne (by omega)]; exact this.2.2.2.1
set_option maxRecDepth 20000 in
theorem M_stir {σ : qSg} {A : zA} (hA : zMA σ A) (hW : zAW A) (q g : Int32) : qCI 4 292 [qr 139, qi q, qi g] σ (zCall σ (yStir A q g)) := by
  have hM := hA.m
  have hw := hW.w
  have wq := hw.2.1
  refine qCI.of [some (qr 139), some (qi q), some (qi g), none] ok_292 (Nat.le_of_ble_eq_true rfl) rfl ?_
  refine qV.go 30 [20] ok_292 ?_
  simp only [qW_nop, qW_iconst, qW_bipush, qW_ldc2, qW_lconst, qW_iloadn, qW_aloadn, qW_istoren, qW_iadd, qW_i2l, qW_ifeq, qW_ifne, qW_getf, qW_iast, qW_cs1_0, qW_cs3_0, qW_cv2_0, qW_cv3_0, qW_iret0, Nat.reduceAdd, Nat.reduceMul, Nat.reduceBEq, Nat.reduceEqDiff, Nat.reduceLT, Nat.reduceLeDiff, Nat.zero_le, nI_add, nI_mul, nI_cl, qin_eq, qofI, qlg_0, qlg_s, qls_i0, qls_r0, qls_l0, qls_1, qls_2, qkl_i, qkl_r, qkl_l, qkl_n, qIsI_i, qIsL_l, qIsR_r, qint_i, qil_i, qil_r, qil_l, qf4_0, qf4_1, qf4_2, qf4_3, qf2_0, qf2_1, qcs_n, qcs_i, qcs_r, qcs_l, qst_n, qst_c, qJ_0, qJ_st, qJ_go, qfl_I, qfl_Z, qfl_L, qfl_R, qrI_i, qrL_l, qrV_v, qRcv_0, qRcv_s, eq_self, true_and, and_true, true_or, or_true, false_and, and_false, false_or, or_false, ite_true, if_true, if_false, Bool.true_or, Bool.false_or, Bool.or_false, beq_self_eq_true, Bool.false_eq_true, bX12_stir_0, bX12_stir_20, bX12_stir_26, bX12_stir_41, kX12_stir_0, kX12_stir_20, kX12_stir_26, kX12_stir_41, qK_139, qR_139_0, qK_140, qR_139_1, qK_141, qR_139_5, qK_142, qR_139_6, qK_143, qR_139_7, qK_144, qR_139_8, qK_145, qR_139_9, qK_146, qR_139_21, qK_147, qR_139_25, qK_148, qR_139_30, qK_149, qR_139_31, qK_150, qR_139_33, qK_151, qR_139_34, qK_152, qR_139_35, qK_153, qR_139_36, qK_154, qR_139_39, qK_155, qR_139_40, qK_156, qR_139_41, qK_157]
  refine qBI.fn (m_isQuarrel hM hw _) (by decide) ?_
  simp (disch := omega) only [nI_leI, nI_ltI, nI_eq, nI_cl, qin_eq, nI_add, nI_mul, qb_z, qb_t, qb_f, nI_ne0', Nat.reduceAdd, Bool.false_eq_true, if_false, if_true, true_and, and_true, Nat.reduceEqDiff, not_true_eq_false, not_false_eq_true, false_implies, true_implies, ite_true, ite_false]
  have no : (zrg q (aC A 0 1) && zih g 0 99) = false → qV 292 4 (.inl (zCall σ (yStir A q g))) 20 [some (qr 139), some (qi q), some (qi g), none] [] σ := by
    intro hz
    refine qV.go 30 [9999] ok_292 ?_
    simp only [qW_nop, qW_iconst, qW_bipush, qW_ldc2, qW_lconst, qW_iloadn, qW_aloadn, qW_istoren, qW_iadd, qW_i2l, qW_ifeq, qW_ifne, qW_getf, qW_iast, qW_cs1_0, qW_cs3_0, qW_cv2_0, qW_cv3_0, qW_iret0, Nat.reduceAdd, Nat.reduceMul, Nat.reduceBEq, Nat.reduceEqDiff, Nat.reduceLT, Nat.reduceLeDiff, Nat.zero_le, nI_add, nI_mul, nI_cl, qin_eq, qofI, qlg_0, qlg_s, qls_i0, qls_r0, qls_l0, qls_1, qls_2, qkl_i, qkl_r, qkl_l, qkl_n, qIsI_i, qIsL_l, qIsR_r, qint_i, qil_i, qil_r, qil_l, qf4_0, qf4_1, qf4_2, qf4_3, qf2_0, qf2_1, qcs_n, qcs_i, qcs_r, qcs_l, qst_n, qst_c, qJ_0, qJ_st, qJ_go, qfl_I, qfl_Z, qfl_L, qfl_R, qrI_i, qrL_l, qrV_v, qRcv_0, qRcv_s, eq_self, true_and, and_true, true_or, or_true, false_and, and_false, false_or, or_false, ite_true, if_true, if_false, Bool.true_or, Bool.false_or, Bool.or_false, beq_self_eq_true, Bool.false_eq_true, bX12_stir_0, bX12_stir_20, bX12_stir_26, bX12_stir_41, kX12_stir_0, kX12_stir_20, kX12_stir_26, kX12_stir_41, qK_139, qR_139_0, qK_140, qR_139_1, qK_141, qR_139_5, qK_142, qR_139_6, qK_143, qR_139_7, qK_144, qR_139_8, qK_145, qR_139_9, qK_146, qR_139_21, qK_147, qR_139_25, qK_148, qR_139_30, qK_149, qR_139_31, qK_150, qR_139_33, qK_151, qR_139_34, qK_152, qR_139_35, qK_153, qR_139_36, qK_154, qR_139_39, qK_155, qR_139_40, qK_156, qR_139_41, qK_157]
    exact e_no hA hW zRef.rf (by decide) (by unfold yStir; rw [if_pos hz]; rfl)
  refine ⟨fun h1 => no (by rw [h1]; rfl), fun h1 => ?_⟩
  have h1 : zrg q (aC A 0 1) = true := by simpa using h1
  refine qBI.fn (m_isFrom' σ _ (lo := 0) (hi := 99) (by decide) (by decide)) (by decide) ?_
  rw [zlh_i]
  simp (disch := omega) only [nI_leI, nI_ltI, nI_eq, nI_cl, qin_eq, nI_add, nI_mul, qb_z, qb_t, qb_f, nI_ne0', Nat.reduceAdd, Bool.false_eq_true, if_false, if_true, true_and, and_true, Nat.reduceEqDiff, not_true_eq_false, not_false_eq_true, false_implies, true_implies, ite_true, ite_false]
  refine ⟨fun h2 => ?_, fun h2 => no (by rw [h2, Bool.and_false])⟩
  have h2 : zih g 0 99 = true := by simpa using h2
  obtain ⟨i, hi, rfl⟩ := zrg_nI h1
  obtain ⟨v, -, hv, rfl⟩ := zih_nI h2
  have eY : yStir A (nI i) (nI v) = if zOpen (aC A) i = false then yNo A 7 else yOk (sC A (zu (aC A) 8 i v)) (nI (aC A 8 i)) := by
    unfold yStir
    rw [if_neg (by rw [h1, h2]; decide), nI_tn (by omega), nI_tn (by omega)]
  rw [eY]
  refine qBI.fn (m_isOpen hM hw hi) (by decide) ?_
  simp (disch := omega) only [nI_leI, nI_ltI, nI_eq, nI_cl, qin_eq, nI_add, nI_mul, qb_z, qb_t, qb_f, nI_ne0', Nat.reduceAdd, Bool.false_eq_true, if_false, if_true, true_and, and_true, Nat.reduceEqDiff, not_true_eq_false, not_false_eq_true, false_implies, true_implies, ite_true, ite_false]
  refine ⟨fun h3 => ?_, fun h3 => ?_⟩
  · rw [if_neg h3]
    refine qBI.fn (m_quarrelOf σ (by omega)) (by decide) (qBI.fn (m_quarrelRow σ _) (by decide) ?_)
    rw [zMq2 hM hi]
    simp only [nI_mul, nI_add]
    simp (disch := omega) only [nI_leI, nI_ltI, nI_eq, nI_cl, qin_eq, nI_add, nI_mul, qb_z, qb_t, qb_f, nI_ne0', Nat.reduceAdd, Bool.false_eq_true, if_false, if_true, true_and, and_true, Nat.reduceEqDiff, not_true_eq_false, not_false_eq_true, false_implies, true_implies, ite_true, ite_false]
    have hm := zM_wq hM hw (q := i) (f := 2) (v := v) hi (by decide)
    have f1 : zF zPc σ (qwi σ 140 (48 + 4 * i + 2) (nI v)) := zF.wi ⟨rfl, by omega, by omega⟩
    exact e_ok (hA.c hW (zPc_m f1) hm (zu_ne (by omega))) (hW.c (zu8_W hw hv) (by rw [zu_ne (by omega)]; exact hW.1.2.1) (fun j _ _ _ => zu_ne (by omega))) (zRf_c f1) (by decide) rfl
  · rw [if_pos h3]
    exact e_no hA hW zRef.rf (by decide) rfl
set_option maxRecDepth 20000 in
theorem M_rule {σ : qSg} {A : zA} (hA : zMA σ A) (hW : zAW A) (o : Int32) : qCI 2 294 [qr 139, qi o] σ (zCall σ (yRule A o)) := by
  have hM := hA.m
  have hw := hW.w
  refine qCI.of [some (qr 139), some (qi o)] ok_294 (Nat.le_of_ble_eq_true rfl) rfl ?_
  refine qV.go 30 [9999] ok_294 ?_
  simp only [qW_nop, qW_iconst, qW_ldc2, qW_lconst, qW_iloadn, qW_aloadn, qW_i2l, qW_ifne, qW_getf, qW_iast, qW_cs3_0, qW_cv2_0, qW_iret1, Nat.reduceAdd, Nat.reduceMul, Nat.reduceBEq, Nat.reduceEqDiff, Nat.reduceLT, Nat.reduceLeDiff, Nat.zero_le, nI_add, nI_mul, nI_cl, qin_eq, qofI, qlg_0, qlg_s, qls_i0, qls_r0, qls_l0, qls_1, qls_2, qkl_i, qkl_r, qkl_l, qkl_n, qIsI_i, qIsL_l, qIsR_r, qint_i, qil_i, qil_r, qil_l, qf4_0, qf4_1, qf4_2, qf4_3, qf2_0, qf2_1, qcs_n, qcs_i, qcs_r, qcs_l, qst_n, qst_c, qJ_0, qJ_st, qJ_go, qfl_I, qfl_Z, qfl_L, qfl_R, qrI_i, qrL_l, qrV_v, qRcv_0, qRcv_s, eq_self, true_and, and_true, true_or, or_true, false_and, and_false, false_or, or_false, ite_true, if_true, if_false, Bool.true_or, Bool.false_or, Bool.or_false, beq_self_eq_true, Bool.false_eq_true, bX12_rule_0, bX12_rule_18, kX12_rule_0, kX12_rule_18, qK_139, qR_139_0, qK_140, qR_139_1, qK_141, qR_139_5, qK_142, qR_139_6, qK_143, qR_139_7, qK_144, qR_139_8, qK_145, qR_139_9, qK_146, qR_139_21, qK_147, qR_139_25, qK_148, qR_139_30, qK_149, qR_139_31, qK_150, qR_139_33, qK_151, qR_139_34, qK_152, qR_139_35, qK_153, qR_139_36, qK_154, qR_139_39, qK_155, qR_139_40, qK_156, qR_139_41, qK_157]
  refine qBI.fn (m_isFrom' σ _ (lo := 0) (hi := 16) (by decide) (by decide)) (by decide) ?_
  rw [zlh_i]
  simp (disch := omega) only [nI_leI, nI_ltI, nI_eq, nI_cl, qin_eq, nI_add, nI_mul, qb_z, qb_t, qb_f, nI_ne0', Nat.reduceAdd, Bool.false_eq_true, if_false, if_true, true_and, and_true, Nat.reduceEqDiff, not_true_eq_false, not_false_eq_true, false_implies, true_implies, ite_true, ite_false]
  refine ⟨fun h2 => ?_, fun h2 => ?_⟩
  · have h2 : zih o 0 16 = true := by simpa using h2
    obtain ⟨v, -, hv, rfl⟩ := zih_nI h2
    have hm := zM_ws hM hw (j := 4) (v := v) (by decide) (by decide) (by decide)
    have f1 : zF zPc σ (qwi σ 140 4 (nI v)) := zF.wi ⟨rfl, by decide, by decide⟩
    refine e_is (hA.c hW (zPc_m f1) hm (zu_ne (by omega))) (hW.c (zuo_W hw hv) (by rw [zu_ne (by omega)]; exact hW.1.2.1) (fun j _ h4 _ => zu_ne (by omega))) (zRf_c f1) (by decide) (by decide) ?_
    unfold yRule
    rw [if_neg (by rw [h2]; decide), nI_tn (by omega)]
    rfl
  · exact e_is hA hW zRef.rf (by decide) (by decide) (by unfold yRule; rw [if_pos h2]; rfl)
set_option maxRecDepth 20000 in
theorem M_far {σ : qSg} {A : zA} (hA : zMA σ A) (hW : zAW A) (a b : Int32) : qCI 4 295 [qr 139, qi a, qi b] σ (zCall σ (yFar A a b)) := by
  have hM := hA.m
  have hw := hW.w
  have wb := hw.1
  refine qCI.of [some (qr 139), some (qi a), some (qi b)] ok_295 (Nat.le_of_ble_eq_true rfl) rfl ?_
  refine qV.go 30 [31] ok_295 ?_
  simp only [qW_nop, qW_iconst, qW_iloadn, qW_aloadn, qW_i2l, qW_ifeq, qW_goto, qW_cv2_0, qW_cv3_0, qW_iret0, Nat.reduceAdd, Nat.reduceMul, Nat.reduceBEq, Nat.reduceEqDiff, Nat.reduceLT, Nat.reduceLeDiff, Nat.zero_le, nI_add, nI_mul, nI_cl, qin_eq, qofI, qlg_0, qlg_s, qls_i0, qls_r0, qls_l0, qls_1, qls_2, qkl_i, qkl_r, qkl_l, qkl_n, qIsI_i, qIsL_l, qIsR_r, qint_i, qil_i, qil_r, qil_l, qf4_0, qf4_1, qf4_2, qf4_3, qf2_0, qf2_1, qcs_n, qcs_i, qcs_r, qcs_l, qst_n, qst_c, qJ_0, qJ_st, qJ_go, qfl_I, qfl_Z, qfl_L, qfl_R, qrI_i, qrL_l, qrV_v, qRcv_0, qRcv_s, eq_self, true_and, and_true, true_or, or_true, false_and, and_false, false_or, or_false, ite_true, if_true, if_false, Bool.true_or, Bool.false_or, Bool.or_false, beq_self_eq_true, Bool.false_eq_true, bX12_far_0, bX12_far_31, bX12_far_36, kX12_far_0, kX12_far_31, kX12_far_36, qK_139, qR_139_0, qK_140, qR_139_1, qK_141, qR_139_5, qK_142, qR_139_6, qK_143, qR_139_7, qK_144, qR_139_8, qK_145, qR_139_9, qK_146, qR_139_21, qK_147, qR_139_25, qK_148, qR_139_30, qK_149, qR_139_31, qK_150, qR_139_33, qK_151, qR_139_34, qK_152, qR_139_35, qK_153, qR_139_36, qK_154, qR_139_39, qK_155, qR_139_40, qK_156, qR_139_41, qK_157]
  refine qBI.fn (m_isBoy hM hw _) (by decide) ?_
  rw [zrl_i]
  simp (disch := omega) only [nI_leI, nI_ltI, nI_eq, nI_cl, qin_eq, nI_add, nI_mul, qb_z, qb_t, qb_f, nI_ne0', Nat.reduceAdd, Bool.false_eq_true, if_false, if_true, true_and, and_true, Nat.reduceEqDiff, not_true_eq_false, not_false_eq_true, false_implies, true_implies, ite_true, ite_false]
  have no : (zrg a (aC A 0 0) && zrg b (aC A 0 0)) = false → qV 295 4 (.inl (zCall σ (yFar A a b))) 31 [some (qr 139), some (qi a), some (qi b)] [] σ := by
    intro hz
    refine qV.go 30 [9999] ok_295 ?_
    simp only [qW_nop, qW_iconst, qW_iloadn, qW_aloadn, qW_i2l, qW_ifeq, qW_goto, qW_cv2_0, qW_cv3_0, qW_iret0, Nat.reduceAdd, Nat.reduceMul, Nat.reduceBEq, Nat.reduceEqDiff, Nat.reduceLT, Nat.reduceLeDiff, Nat.zero_le, nI_add, nI_mul, nI_cl, qin_eq, qofI, qlg_0, qlg_s, qls_i0, qls_r0, qls_l0, qls_1, qls_2, qkl_i, qkl_r, qkl_l, qkl_n, qIsI_i, qIsL_l, qIsR_r, qint_i, qil_i, qil_r, qil_l, qf4_0, qf4_1, qf4_2, qf4_3, qf2_0, qf2_1, qcs_n, qcs_i, qcs_r, qcs_l, qst_n, qst_c, qJ_0, qJ_st, qJ_go, qfl_I, qfl_Z, qfl_L, qfl_R, qrI_i, qrL_l, qrV_v, qRcv_0, qRcv_s, eq_self, true_and, and_true, true_or, or_true, false_and, and_false, false_or, or_false, ite_true, if_true, if_false, Bool.true_or, Bool.false_or, Bool.or_false, beq_self_eq_true, Bool.false_eq_true, bX12_far_0, bX12_far_31, bX12_far_36, kX12_far_0, kX12_far_31, kX12_far_36, qK_139, qR_139_0, qK_140, qR_139_1, qK_141, qR_139_5, qK_142, qR_139_6, qK_143, qR_139_7, qK_144, qR_139_8, qK_145, qR_139_9, qK_146, qR_139_21, qK_147, qR_139_25, qK_148, qR_139_30, qK_149, qR_139_31, qK_150, qR_139_33, qK_151, qR_139_34, qK_152, qR_139_35, qK_153, qR_139_36, qK_154, qR_139_39, qK_155, qR_139_40, qK_156, qR_139_41, qK_157]
    exact e_no hA hW zRef.rf (by decide) (by unfold yFar; rw [if_pos hz]; rfl)
  refine ⟨fun h1 => no (by rw [h1]; rfl), fun h1 => ?_⟩
  have h1 : zrg a (aC A 0 0) = true := by simpa using h1
  refine qBI.fn (m_isBoy hM hw _) (by decide) ?_
  rw [zrl_i]
  simp (disch := omega) only [nI_leI, nI_ltI, nI_eq, nI_cl, qin_eq, nI_add, nI_mul, qb_z, qb_t, qb_f, nI_ne0', Nat.reduceAdd, Bool.false_eq_true, if_false, if_true, true_and, and_true, Nat.reduceEqDiff, not_true_eq_false, not_false_eq_true, false_implies, true_implies, ite_true, ite_false]
  refine ⟨fun h2 => no (by rw [h2, Bool.and_false]), fun h2 => ?_⟩
  have h2 : zrg b (aC A 0 0) = true := by simpa using h2
  have eY : yFar A a b = yOk A (nI (zfar (aC A) a.toInt.toNat b.toInt.toNat)) := by
    unfold yFar
    rw [if_neg (by rw [h1, h2]; decide)]
  rw [eY]
  obtain ⟨i, hi, rfl⟩ := zrg_nI h1
  obtain ⟨k, hk, rfl⟩ := zrg_nI h2
  rw [nI_tn (by omega), nI_tn (by omega)]
  exact qBI.fn (m_apartOf hM hw hi hk) (by decide) (e_ok hA hW zRef.rf (by decide) rfl)
set_option maxRecDepth 20000 in
theorem M_near {σ : qSg} {A : zA} (hA : zMA σ A) (hW : zAW A) (b : Int32) : qCI 5 297 [qr 139, qi b] σ (zCall σ (yNear A b)) := by
  have hM := hA.m
  have hw := hW.w
  have wb := hw.1
  refine qCI.of [some (qr 139), some (qi b)] ok_297 (Nat.le_of_ble_eq_true rfl) rfl ?_
  refine qV.go 30 [9999] ok_297 ?_
  simp only [qW_nop, qW_iconst, qW_iloadn, qW_aloadn, qW_i2l, qW_ifeq, qW_goto, qW_cv2_0, qW_iret0, Nat.reduceAdd, Nat.reduceMul, Nat.reduceBEq, Nat.reduceEqDiff, Nat.reduceLT, Nat.reduceLeDiff, Nat.zero_le, nI_add, nI_mul, nI_cl, qin_eq, qofI, qlg_0, qlg_s, qls_i0, qls_r0, qls_l0, qls_1, qls_2, qkl_i, qkl_r, qkl_l, qkl_n, qIsI_i, qIsL_l, qIsR_r, qint_i, qil_i, qil_r, qil_l, qf4_0, qf4_1, qf4_2, qf4_3, qf2_0, qf2_1, qcs_n, qcs_i, qcs_r, qcs_l, qst_n, qst_c, qJ_0, qJ_st, qJ_go, qfl_I, qfl_Z, qfl_L, qfl_R, qrI_i, qrL_l, qrV_v, qRcv_0, qRcv_s, eq_self, true_and, and_true, true_or, or_true, false_and, and_false, false_or, or_false, ite_true, if_true, if_false, Bool.true_or, Bool.false_or, Bool.or_false, beq_self_eq_true, Bool.false_eq_true, bX12_near_0, bX12_near_21, bX12_near_26, kX12_near_0, kX12_near_21, kX12_near_26, qK_139, qR_139_0, qK_140, qR_139_1, qK_141, qR_139_5, qK_142, qR_139_6, qK_143, qR_139_7, qK_144, qR_139_8, qK_145, qR_139_9, qK_146, qR_139_21, qK_147, qR_139_25, qK_148, qR_139_30, qK_149, qR_139_31, qK_150, qR_139_33, qK_151, qR_139_34, qK_152, qR_139_35, qK_153, qR_139_36, qK_154, qR_139_39, qK_155, qR_139_40, qK_156, qR_139_41, qK_157]
  refine qBI.fn (m_isBoy hM hw _) (by decide) ?_
  rw [zrl_i]
  simp (disch := omega) only [nI_leI, nI_ltI, nI_eq, nI_cl, qin_eq, nI_add, nI_mul, qb_z, qb_t, qb_f, nI_ne0', Nat.reduceAdd, Bool.false_eq_true, if_false, if_true, true_and, and_true, Nat.reduceEqDiff, not_true_eq_false, not_false_eq_true, false_implies, true_implies, ite_true, ite_false]
  refine ⟨fun h1 => e_no hA hW zRef.rf (by decide) (by unfold yNear; rw [if_pos h1]; rfl), fun h1 => ?_⟩
  have h1 : zrg b (aC A 0 0) = true := by simpa using h1
  have eY : yNear A b = yOk A (nI (znear (aC A) b.toInt.toNat)) := by
    unfold yNear
    rw [if_neg (by rw [h1]; decide)]
  rw [eY]
  obtain ⟨i, hi, rfl⟩ := zrg_nI h1
  rw [nI_tn (by omega)]
  exact qBI.fn (m_nearOf hM hw hi) (by decide) (e_ok hA hW zRef.rf (by decide) rfl)
set_option maxRecDepth 20000 in
theorem M_hears {σ : qSg} {A : zA} (hA : zMA σ A) (hW : zAW A) (b : Int32) : qCI 6 296 [qr 139, qi b] σ (zCall σ (yHears A b)) := by
  have hM := hA.m
  have hw := hW.w
  have wb := hw.1
  refine qCI.of [some (qr 139), some (qi b)] ok_296 (Nat.le_of_ble_eq_true rfl) rfl ?_
  refine qV.go 30 [9999] ok_296 ?_
  simp only [qW_nop, qW_iconst, qW_iloadn, qW_aloadn, qW_iand, qW_i2l, qW_ifeq, qW_goto, qW_cv1_0, qW_cv2_0, qW_iret0, Nat.reduceAdd, Nat.reduceMul, Nat.reduceBEq, Nat.reduceEqDiff, Nat.reduceLT, Nat.reduceLeDiff, Nat.zero_le, nI_add, nI_mul, nI_cl, qin_eq, qofI, qlg_0, qlg_s, qls_i0, qls_r0, qls_l0, qls_1, qls_2, qkl_i, qkl_r, qkl_l, qkl_n, qIsI_i, qIsL_l, qIsR_r, qint_i, qil_i, qil_r, qil_l, qf4_0, qf4_1, qf4_2, qf4_3, qf2_0, qf2_1, qcs_n, qcs_i, qcs_r, qcs_l, qst_n, qst_c, qJ_0, qJ_st, qJ_go, qfl_I, qfl_Z, qfl_L, qfl_R, qrI_i, qrL_l, qrV_v, qRcv_0, qRcv_s, eq_self, true_and, and_true, true_or, or_true, false_and, and_false, false_or, or_false, ite_true, if_true, if_false, Bool.true_or, Bool.false_or, Bool.or_false, beq_self_eq_true, Bool.false_eq_true, bX12_hears_0, bX12_hears_26, bX12_hears_31, kX12_hears_0, kX12_hears_26, kX12_hears_31, qK_139, qR_139_0, qK_140, qR_139_1, qK_141, qR_139_5, qK_142, qR_139_6, qK_143, qR_139_7, qK_144, qR_139_8, qK_145, qR_139_9, qK_146, qR_139_21, qK_147, qR_139_25, qK_148, qR_139_30, qK_149, qR_139_31, qK_150, qR_139_33, qK_151, qR_139_34, qK_152, qR_139_35, qK_153, qR_139_36, qK_154, qR_139_39, qK_155, qR_139_40, qK_156, qR_139_41, qK_157]
  refine qBI.fn (m_isBoy hM hw _) (by decide) ?_
  rw [zrl_i]
  simp (disch := omega) only [nI_leI, nI_ltI, nI_eq, nI_cl, qin_eq, nI_add, nI_mul, qb_z, qb_t, qb_f, nI_ne0', Nat.reduceAdd, Bool.false_eq_true, if_false, if_true, true_and, and_true, Nat.reduceEqDiff, not_true_eq_false, not_false_eq_true, false_implies, true_implies, ite_true, ite_false]
  refine ⟨fun h1 => e_no hA hW zRef.rf (by decide) (by unfold yHears; rw [if_pos h1]; rfl), fun h1 => ?_⟩
  have h1 : zrg b (aC A 0 0) = true := by simpa using h1
  have eY : yHears A b = yOk A (nI (znear (aC A) b.toInt.toNat &&& zups (aC A))) := by
    unfold yHears
    rw [if_neg (by rw [h1]; decide)]
  rw [eY]
  obtain ⟨i, hi, rfl⟩ := zrg_nI h1
  rw [nI_tn (by omega)]
  refine qBI.fn (m_nearOf hM hw hi) (by decide) (qBI.fn (m_areUp hM hw) (by decide) ?_)
  rw [nI_and]
  exact e_ok hA hW zRef.rf (by decide) rfl
set_option maxRecDepth 20000 in
theorem M_due {σ : qSg} {A : zA} (hA : zMA σ A) (hW : zAW A) (b q : Int32) : qCI 6 298 [qr 139, qi b, qi q] σ (zCall σ (yDue A b q)) := by
  have hM := hA.m
  have hw := hW.w
  have wb := hw.1
  have wq := hw.2.1
  refine qCI.of [some (qr 139), some (qi b), some (qi q)] ok_298 (Nat.le_of_ble_eq_true rfl) rfl ?_
  refine qV.go 30 [17] ok_298 ?_
  simp only [qW_nop, qW_iconst, qW_bipush, qW_iloadn, qW_aloadn, qW_i2l, qW_ifeq, qW_ifne, qW_goto, qW_cv1_0, qW_cv2_0, qW_cv3_0, qW_cv4_0, qW_iret0, Nat.reduceAdd, Nat.reduceMul, Nat.reduceBEq, Nat.reduceEqDiff, Nat.reduceLT, Nat.reduceLeDiff, Nat.zero_le, nI_add, nI_mul, nI_cl, qin_eq, qofI, qlg_0, qlg_s, qls_i0, qls_r0, qls_l0, qls_1, qls_2, qkl_i, qkl_r, qkl_l, qkl_n, qIsI_i, qIsL_l, qIsR_r, qint_i, qil_i, qil_r, qil_l, qf4_0, qf4_1, qf4_2, qf4_3, qf2_0, qf2_1, qcs_n, qcs_i, qcs_r, qcs_l, qst_n, qst_c, qJ_0, qJ_st, qJ_go, qfl_I, qfl_Z, qfl_L, qfl_R, qrI_i, qrL_l, qrV_v, qRcv_0, qRcv_s, eq_self, true_and, and_true, true_or, or_true, false_and, and_false, false_or, or_false, ite_true, if_true, if_false, Bool.true_or, Bool.false_or, Bool.or_false, beq_self_eq_true, Bool.false_eq_true, bX12_due_0, bX12_due_17, bX12_due_23, bX12_due_43, bX12_due_68, bX12_due_74, kX12_due_0, kX12_due_17, kX12_due_23, kX12_due_43, kX12_due_68, kX12_due_74, qK_139, qR_139_0, qK_140, qR_139_1, qK_141, qR_139_5, qK_142, qR_139_6, qK_143, qR_139_7, qK_144, qR_139_8, qK_145, qR_139_9, qK_146, qR_139_21, qK_147, qR_139_25, qK_148, qR_139_30, qK_149, qR_139_31, qK_150, qR_139_33, qK_151, qR_139_34, qK_152, qR_139_35, qK_153, qR_139_36, qK_154, qR_139_39, qK_155, qR_139_40, qK_156, qR_139_41, qK_157]
  refine qBI.fn (m_isBoy hM hw _) (by decide) ?_
  rw [zrl_i]
  simp (disch := omega) only [nI_leI, nI_ltI, nI_eq, nI_cl, qin_eq, nI_add, nI_mul, qb_z, qb_t, qb_f, nI_ne0', Nat.reduceAdd, Bool.false_eq_true, if_false, if_true, true_and, and_true, Nat.reduceEqDiff, not_true_eq_false, not_false_eq_true, false_implies, true_implies, ite_true, ite_false]
  have no : (zrg b (aC A 0 0) && zrg q (aC A 0 1)) = false → qV 298 6 (.inl (zCall σ (yDue A b q))) 17 [some (qr 139), some (qi b), some (qi q)] [] σ := by
    intro hz
    refine qV.go 30 [9999] ok_298 ?_
    simp only [qW_nop, qW_iconst, qW_bipush, qW_iloadn, qW_aloadn, qW_i2l, qW_ifeq, qW_ifne, qW_goto, qW_cv1_0, qW_cv2_0, qW_cv3_0, qW_cv4_0, qW_iret0, Nat.reduceAdd, Nat.reduceMul, Nat.reduceBEq, Nat.reduceEqDiff, Nat.reduceLT, Nat.reduceLeDiff, Nat.zero_le, nI_add, nI_mul, nI_cl, qin_eq, qofI, qlg_0, qlg_s, qls_i0, qls_r0, qls_l0, qls_1, qls_2, qkl_i, qkl_r, qkl_l, qkl_n, qIsI_i, qIsL_l, qIsR_r, qint_i, qil_i, qil_r, qil_l, qf4_0, qf4_1, qf4_2, qf4_3, qf2_0, qf2_1, qcs_n, qcs_i, qcs_r, qcs_l, qst_n, qst_c, qJ_0, qJ_st, qJ_go, qfl_I, qfl_Z, qfl_L, qfl_R, qrI_i, qrL_l, qrV_v, qRcv_0, qRcv_s, eq_self, true_and, and_true, true_or, or_true, false_and, and_false, false_or, or_false, ite_true, if_true, if_false, Bool.true_or, Bool.false_or, Bool.or_false, beq_self_eq_true, Bool.false_eq_true, bX12_due_0, bX12_due_17, bX12_due_23, bX12_due_43, bX12_due_68, bX12_due_74, kX12_due_0, kX12_due_17, kX12_due_23, kX12_due_43, kX12_due_68, kX12_due_74, qK_139, qR_139_0, qK_140, qR_139_1, qK_141, qR_139_5, qK_142, qR_139_6, qK_143, qR_139_7, qK_144, qR_139_8, qK_145, qR_139_9, qK_146, qR_139_21, qK_147, qR_139_25, qK_148, qR_139_30, qK_149, qR_139_31, qK_150, qR_139_33, qK_151, qR_139_34, qK_152, qR_139_35, qK_153, qR_139_36, qK_154, qR_139_39, qK_155, qR_139_40, qK_156, qR_139_41, qK_157]
    exact e_no hA hW zRef.rf (by decide) (by unfold yDue; rw [if_pos hz]; rfl)
  refine ⟨fun h1 => no (by rw [h1]; rfl), fun h1 => ?_⟩
  have h1 : zrg b (aC A 0 0) = true := by simpa using h1
  refine qBI.fn (m_isQuarrel hM hw _) (by decide) ?_
  simp (disch := omega) only [nI_leI, nI_ltI, nI_eq, nI_cl, qin_eq, nI_add, nI_mul, qb_z, qb_t, qb_f, nI_ne0', Nat.reduceAdd, Bool.false_eq_true, if_false, if_true, true_and, and_true, Nat.reduceEqDiff, not_true_eq_false, not_false_eq_true, false_implies, true_implies, ite_true, ite_false]
  refine ⟨fun h2 => ?_, fun h2 => no (by rw [h2, Bool.and_false])⟩
  have h2 : zrg q (aC A 0 1) = true := by simpa using h2
  have eY : yDue A b q = if zin (aC A) q.toInt.toNat b.toInt.toNat = false then yNo A 6 else if zOpen (aC A) q.toInt.toNat = false then yNo A 7 else yOk A (iI (zdue (aC A) b.toInt.toNat q.toInt.toNat (zups (aC A)))) := by
    unfold yDue
    rw [if_neg (by rw [h1, h2]; decide)]
  rw [eY]
  obtain ⟨i, hi, rfl⟩ := zrg_nI h1
  obtain ⟨k, hk, rfl⟩ := zrg_nI h2
  rw [nI_tn (by omega), nI_tn (by omega)]
  have hl := zboth_lt hw hk
  have hu := zups_lt hw
  refine qBI.fn (m_both hM hw hk) (by decide) (qBI.fn (m_isIn σ (by omega) (by omega)) (by decide) ?_)
  rw [zboth_bit]
  simp (disch := omega) only [nI_leI, nI_ltI, nI_eq, nI_cl, qin_eq, nI_add, nI_mul, qb_z, qb_t, qb_f, nI_ne0', Nat.reduceAdd, Bool.false_eq_true, if_false, if_true, true_and, and_true, Nat.reduceEqDiff, not_true_eq_false, not_false_eq_true, false_implies, true_implies, ite_true, ite_false]
  refine ⟨fun h3 => ?_, fun h3 => ?_⟩
  · rw [if_neg h3]
    refine qBI.fn (m_isOpen hM hw hk) (by decide) ?_
    simp (disch := omega) only [nI_leI, nI_ltI, nI_eq, nI_cl, qin_eq, nI_add, nI_mul, qb_z, qb_t, qb_f, nI_ne0', Nat.reduceAdd, Bool.false_eq_true, if_false, if_true, true_and, and_true, Nat.reduceEqDiff, not_true_eq_false, not_false_eq_true, false_implies, true_implies, ite_true, ite_false]
    refine ⟨fun h4 => ?_, fun h4 => ?_⟩
    · rw [if_pos h4]
      exact e_no hA hW zRef.rf (by decide) rfl
    · rw [if_neg h4]
      refine qBI.fn (m_areUp hM hw) (by decide) (qBI.fn (m_dueOf hM hw hi hk (by omega)) (by decide) ?_)
      exact e_ok hA hW zRef.rf (by decide) rfl
  · rw [if_pos h3]
    exact e_no hA hW zRef.rf (by decide) rfl
