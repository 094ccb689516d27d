/-! the reference: small methods -/
set_option maxRecDepth 20000 in
theorem m_gives (σ : qSg) (v : Int32) : qCI 1 215 [qr 139, qi v] σ (fun r σ' => r = v ∧ σ' = qwi σ 139 2 (nI 0)) := by
  refine qCI.of [some (qr 139), some (qi v)] ok_215 (Nat.le_of_ble_eq_true rfl) rfl ?_
  refine qV.go 30 [9999] ok_215 ?_
  simp only [qW_nop, qW_iconst, qW_iloadn, qW_aloadn, qW_iret0, qW_putf0, Nat.reduceAdd, Nat.reduceMul, Nat.reduceBEq, Nat.reduceEqDiff, Nat.reduceLT, Nat.reduceLeDiff, Nat.zero_le, nI_add, nI_mul, nI_cl, qin_eq, qofI, qlg_0, qlg_s, qls_i0, qls_r0, qls_l0, qls_1, qls_2, qkl_i, qkl_r, qkl_l, qkl_n, qIsI_i, qIsL_l, qIsR_r, qint_i, qil_i, qil_r, qil_l, qf4_0, qf4_1, qf4_2, qf4_3, qf2_0, qf2_1, qcs_n, qcs_i, qcs_r, qcs_l, qst_n, qst_c, qJ_0, qJ_st, qJ_go, qfl_I, qfl_Z, qfl_L, qfl_R, qrI_i, qrL_l, qrV_v, qRcv_0, qRcv_s, eq_self, true_and, and_true, true_or, or_true, false_and, and_false, false_or, or_false, ite_true, if_true, if_false, Bool.true_or, Bool.false_or, Bool.or_false, beq_self_eq_true, Bool.false_eq_true, bX12_gives_0, kX12_gives_0, qK_139, qR_139_0, qK_140, qR_139_1, qK_141, qR_139_5, qK_142, qR_139_6, qK_143, qR_139_7, qK_144, qR_139_8, qK_145, qR_139_9, qK_146, qR_139_21, qK_147, qR_139_25, qK_148, qR_139_30, qK_149, qR_139_31, qK_150, qR_139_33, qK_151, qR_139_34, qK_152, qR_139_35, qK_153, qR_139_36, qK_154, qR_139_39, qK_155, qR_139_40, qK_156, qR_139_41, qK_157]
set_option maxRecDepth 20000 in
theorem m_refuse (σ : qSg) (v : Int32) : qCI 1 214 [qr 139, qi v] σ (fun r σ' => r = iI (-1) ∧ σ' = qwi σ 139 2 v) := by
  refine qCI.of [some (qr 139), some (qi v)] ok_214 (Nat.le_of_ble_eq_true rfl) rfl ?_
  refine qV.go 30 [9999] ok_214 ?_
  simp only [qW_nop, qW_iconstm, qW_iloadn, qW_aloadn, qW_iret0, qW_putf0, Nat.reduceAdd, Nat.reduceMul, Nat.reduceBEq, Nat.reduceEqDiff, Nat.reduceLT, Nat.reduceLeDiff, Nat.zero_le, nI_add, nI_mul, nI_cl, qin_eq, qofI, qlg_0, qlg_s, qls_i0, qls_r0, qls_l0, qls_1, qls_2, qkl_i, qkl_r, qkl_l, qkl_n, qIsI_i, qIsL_l, qIsR_r, qint_i, qil_i, qil_r, qil_l, qf4_0, qf4_1, qf4_2, qf4_3, qf2_0, qf2_1, qcs_n, qcs_i, qcs_r, qcs_l, qst_n, qst_c, qJ_0, qJ_st, qJ_go, qfl_I, qfl_Z, qfl_L, qfl_R, qrI_i, qrL_l, qrV_v, qRcv_0, qRcv_s, eq_self, true_and, and_true, true_or, or_true, false_and, and_false, false_or, or_false, ite_true, if_true, if_false, Bool.true_or, Bool.false_or, Bool.or_false, beq_self_eq_true, Bool.false_eq_true, bX12_refuse_0, kX12_refuse_0, qK_139, qR_139_0, qK_140, qR_139_1, qK_141, qR_139_5, qK_142, qR_139_6, qK_143, qR_139_7, qK_144, qR_139_8, qK_145, qR_139_9, qK_146, qR_139_21, qK_147, qR_139_25, qK_148, qR_139_30, qK_149, qR_139_31, qK_150, qR_139_33, qK_151, qR_139_34, qK_152, qR_139_35, qK_153, qR_139_36, qK_154, qR_139_39, qK_155, qR_139_40, qK_156, qR_139_41, qK_157]
set_option maxRecDepth 20000 in
theorem m_quarrelRow (σ : qSg) (q : Int32) : qFI 1 245 [qi q] σ (nI 48 + nI 4 * q) := by
  refine qCI.of [some (qi q)] ok_245 (Nat.le_of_ble_eq_true rfl) rfl ?_
  refine qV.go 30 [9999] ok_245 ?_
  simp only [qW_nop, qW_iconst, qW_bipush, qW_iloadn, qW_iadd, qW_imul, qW_iret0, Nat.reduceAdd, Nat.reduceMul, Nat.reduceBEq, Nat.reduceEqDiff, Nat.reduceLT, Nat.reduceLeDiff, Nat.zero_le, nI_add, nI_mul, nI_cl, qin_eq, qofI, qlg_0, qlg_s, qls_i0, qls_r0, qls_l0, qls_1, qls_2, qkl_i, qkl_r, qkl_l, qkl_n, qIsI_i, qIsL_l, qIsR_r, qint_i, qil_i, qil_r, qil_l, qf4_0, qf4_1, qf4_2, qf4_3, qf2_0, qf2_1, qcs_n, qcs_i, qcs_r, qcs_l, qst_n, qst_c, qJ_0, qJ_st, qJ_go, qfl_I, qfl_Z, qfl_L, qfl_R, qrI_i, qrL_l, qrV_v, qRcv_0, qRcv_s, eq_self, true_and, and_true, true_or, or_true, false_and, and_false, false_or, or_false, ite_true, if_true, if_false, Bool.true_or, Bool.false_or, Bool.or_false, beq_self_eq_true, Bool.false_eq_true, bX12_quarrelRow_0, kX12_quarrelRow_0]
set_option maxRecDepth 20000 in
theorem m_boyRow (σ : qSg) (q : Int32) : qFI 1 244 [qi q] σ (nI 8 + nI 5 * q) := by
  refine qCI.of [some (qi q)] ok_244 (Nat.le_of_ble_eq_true rfl) rfl ?_
  refine qV.go 30 [9999] ok_244 ?_
  simp only [qW_nop, qW_iconst, qW_bipush, qW_iloadn, qW_iadd, qW_imul, qW_iret0, Nat.reduceAdd, Nat.reduceMul, Nat.reduceBEq, Nat.reduceEqDiff, Nat.reduceLT, Nat.reduceLeDiff, Nat.zero_le, nI_add, nI_mul, nI_cl, qin_eq, qofI, qlg_0, qlg_s, qls_i0, qls_r0, qls_l0, qls_1, qls_2, qkl_i, qkl_r, qkl_l, qkl_n, qIsI_i, qIsL_l, qIsR_r, qint_i, qil_i, qil_r, qil_l, qf4_0, qf4_1, qf4_2, qf4_3, qf2_0, qf2_1, qcs_n, qcs_i, qcs_r, qcs_l, qst_n, qst_c, qJ_0, qJ_st, qJ_go, qfl_I, qfl_Z, qfl_L, qfl_R, qrI_i, qrL_l, qrV_v, qRcv_0, qRcv_s, eq_self, true_and, and_true, true_or, or_true, false_and, and_false, false_or, or_false, ite_true, if_true, if_false, Bool.true_or, Bool.false_or, Bool.or_false, beq_self_eq_true, Bool.false_eq_true, bX12_boyRow_0, kX12_boyRow_0]
set_option maxRecDepth 20000 in
theorem m_quarrelOf (σ : qSg) {q w : Nat} (h : 48 + 4 * q + w < 3088) : qFI 2 265 [qr 139, qi (nI q), qi (nI w)] σ (σ.1 140 (48 + 4 * q + w)) := by
  refine qCI.of [some (qr 139), some (qi (nI q)), some (qi (nI w))] ok_265 (Nat.le_of_ble_eq_true rfl) rfl ?_
  refine qV.go 30 [9999] ok_265 ?_
  simp only [qW_nop, qW_iloadn, qW_aloadn, qW_iadd, qW_getf, qW_iald, qW_cs1_0, qW_iret0, Nat.reduceAdd, Nat.reduceMul, Nat.reduceBEq, Nat.reduceEqDiff, Nat.reduceLT, Nat.reduceLeDiff, Nat.zero_le, nI_add, nI_mul, nI_cl, qin_eq, qofI, qlg_0, qlg_s, qls_i0, qls_r0, qls_l0, qls_1, qls_2, qkl_i, qkl_r, qkl_l, qkl_n, qIsI_i, qIsL_l, qIsR_r, qint_i, qil_i, qil_r, qil_l, qf4_0, qf4_1, qf4_2, qf4_3, qf2_0, qf2_1, qcs_n, qcs_i, qcs_r, qcs_l, qst_n, qst_c, qJ_0, qJ_st, qJ_go, qfl_I, qfl_Z, qfl_L, qfl_R, qrI_i, qrL_l, qrV_v, qRcv_0, qRcv_s, eq_self, true_and, and_true, true_or, or_true, false_and, and_false, false_or, or_false, ite_true, if_true, if_false, Bool.true_or, Bool.false_or, Bool.or_false, beq_self_eq_true, Bool.false_eq_true, bX12_quarrelOf_0, kX12_quarrelOf_0, qK_139, qR_139_0, qK_140, qR_139_1, qK_141, qR_139_5, qK_142, qR_139_6, qK_143, qR_139_7, qK_144, qR_139_8, qK_145, qR_139_9, qK_146, qR_139_21, qK_147, qR_139_25, qK_148, qR_139_30, qK_149, qR_139_31, qK_150, qR_139_33, qK_151, qR_139_34, qK_152, qR_139_35, qK_153, qR_139_36, qK_154, qR_139_39, qK_155, qR_139_40, qK_156, qR_139_41, qK_157]
  refine qBI.fn (m_quarrelRow _ _) (by decide) ?_
  simp (disch := omega) only [nI_leI, nI_ltI, nI_eq, nI_cl, qin_eq, nI_add, nI_mul, qb_z, qb_t, qb_f, nI_ne0', Nat.reduceAdd, Bool.false_eq_true, if_false, if_true, true_and, and_true, Nat.reduceEqDiff, not_true_eq_false, not_false_eq_true, false_implies, true_implies, ite_true, ite_false]
set_option maxRecDepth 20000 in
theorem m_boyOf (σ : qSg) {q w : Nat} (h : 8 + 5 * q + w < 3088) : qFI 2 264 [qr 139, qi (nI q), qi (nI w)] σ (σ.1 140 (8 + 5 * q + w)) := by
  refine qCI.of [some (qr 139), some (qi (nI q)), some (qi (nI w))] ok_264 (Nat.le_of_ble_eq_true rfl) rfl ?_
  refine qV.go 30 [9999] ok_264 ?_
  simp only [qW_nop, qW_iloadn, qW_aloadn, qW_iadd, qW_getf, qW_iald, qW_cs1_0, qW_iret0, Nat.reduceAdd, Nat.reduceMul, Nat.reduceBEq, Nat.reduceEqDiff, Nat.reduceLT, Nat.reduceLeDiff, Nat.zero_le, nI_add, nI_mul, nI_cl, qin_eq, qofI, qlg_0, qlg_s, qls_i0, qls_r0, qls_l0, qls_1, qls_2, qkl_i, qkl_r, qkl_l, qkl_n, qIsI_i, qIsL_l, qIsR_r, qint_i, qil_i, qil_r, qil_l, qf4_0, qf4_1, qf4_2, qf4_3, qf2_0, qf2_1, qcs_n, qcs_i, qcs_r, qcs_l, qst_n, qst_c, qJ_0, qJ_st, qJ_go, qfl_I, qfl_Z, qfl_L, qfl_R, qrI_i, qrL_l, qrV_v, qRcv_0, qRcv_s, eq_self, true_and, and_true, true_or, or_true, false_and, and_false, false_or, or_false, ite_true, if_true, if_false, Bool.true_or, Bool.false_or, Bool.or_false, beq_self_eq_true, Bool.false_eq_true, bX12_boyOf_0, kX12_boyOf_0, qK_139, qR_139_0, qK_140, qR_139_1, qK_141, qR_139_5, qK_142, qR_139_6, qK_143, qR_139_7, qK_144, qR_139_8, qK_145, qR_139_9, qK_146, qR_139_21, qK_147, qR_139_25, qK_148, qR_139_30, qK_149, qR_139_31, qK_150, qR_139_33, qK_151, qR_139_34, qK_152, qR_139_35, qK_153, qR_139_36, qK_154, qR_139_39, qK_155, qR_139_40, qK_156, qR_139_41, qK_157]
  refine qBI.fn (m_boyRow _ _) (by decide) ?_
  simp (disch := omega) only [nI_leI, nI_ltI, nI_eq, nI_cl, qin_eq, nI_add, nI_mul, qb_z, qb_t, qb_f, nI_ne0', Nat.reduceAdd, Bool.false_eq_true, if_false, if_true, true_and, and_true, Nat.reduceEqDiff, not_true_eq_false, not_false_eq_true, false_implies, true_implies, ite_true, ite_false]
set_option maxRecDepth 20000 in
theorem m_isOpen {σ : qSg} {C : zC} (h : zM σ 0 C) (hw : zW C) {q : Nat} (hq : q < C 0 1) : qFI 3 266 [qr 139, qi (nI q)] σ (qb (zOpen C q)) := by
  obtain ⟨wb, wq, ww1, ww2, wh1, wh2, wo, wm, wB, wQ⟩ := id hw
  refine qCI.of [some (qr 139), some (qi (nI q))] ok_266 (Nat.le_of_ble_eq_true rfl) rfl ?_
  refine qV.go 30 [9999] ok_266 ?_
  simp only [qW_nop, qW_iconst, qW_iloadn, qW_aloadn, qW_ifne, qW_goto, qW_cv3_0, qW_iret1, Nat.reduceAdd, Nat.reduceMul, Nat.reduceBEq, Nat.reduceEqDiff, Nat.reduceLT, Nat.reduceLeDiff, Nat.zero_le, nI_add, nI_mul, nI_cl, qin_eq, qofI, qlg_0, qlg_s, qls_i0, qls_r0, qls_l0, qls_1, qls_2, qkl_i, qkl_r, qkl_l, qkl_n, qIsI_i, qIsL_l, qIsR_r, qint_i, qil_i, qil_r, qil_l, qf4_0, qf4_1, qf4_2, qf4_3, qf2_0, qf2_1, qcs_n, qcs_i, qcs_r, qcs_l, qst_n, qst_c, qJ_0, qJ_st, qJ_go, qfl_I, qfl_Z, qfl_L, qfl_R, qrI_i, qrL_l, qrV_v, qRcv_0, qRcv_s, eq_self, true_and, and_true, true_or, or_true, false_and, and_false, false_or, or_false, ite_true, if_true, if_false, Bool.true_or, Bool.false_or, Bool.or_false, beq_self_eq_true, Bool.false_eq_true, bX12_isOpen_0, bX12_isOpen_13, bX12_isOpen_14, kX12_isOpen_0, kX12_isOpen_13, kX12_isOpen_14, qK_139, qR_139_0, qK_140, qR_139_1, qK_141, qR_139_5, qK_142, qR_139_6, qK_143, qR_139_7, qK_144, qR_139_8, qK_145, qR_139_9, qK_146, qR_139_21, qK_147, qR_139_25, qK_148, qR_139_30, qK_149, qR_139_31, qK_150, qR_139_33, qK_151, qR_139_34, qK_152, qR_139_35, qK_153, qR_139_36, qK_154, qR_139_39, qK_155, qR_139_40, qK_156, qR_139_41, qK_157]
  refine qBI.fn (m_quarrelOf σ (by omega)) (by decide) ?_
  have g := wQ q hq
  rw [zMq3 h hq, ← nI_0]
  simp (disch := omega) only [nI_leI, nI_ltI, nI_eq, nI_cl, qin_eq, nI_add, nI_mul, qb_z, qb_t, qb_f, nI_ne0', Nat.reduceAdd, Bool.false_eq_true, if_false, if_true, true_and, and_true, Nat.reduceEqDiff, not_true_eq_false, not_false_eq_true, false_implies, true_implies, ite_true, ite_false]
  by_cases h1 : C 9 q = 0 <;> simp [h1, zOpen, qb]
set_option maxRecDepth 20000 in
theorem m_openOnes {σ : qSg} {C : zC} (h : zM σ 0 C) (hw : zW C) : qFI 4 268 [qr 139] σ (nI (zopens C)) := by
  obtain ⟨wb, wq, ww1, ww2, wh1, wh2, wo, wm, wB, wQ⟩ := id hw
  refine qCI.of [some (qr 139), none, none] ok_268 (Nat.le_of_ble_eq_true rfl) rfl ?_
  refine qV.go 30 [4] ok_268 ?_
  simp only [qW_nop, qW_iconst, qW_iloadn, qW_aloadn, qW_istoren, qW_iinc, qW_ior, qW_ishl, qW_ifeq, qW_icge, qW_goto, qW_getf, qW_iald, qW_cv2_0, qW_iret0, Nat.reduceAdd, Nat.reduceMul, Nat.reduceBEq, Nat.reduceEqDiff, Nat.reduceLT, Nat.reduceLeDiff, Nat.zero_le, nI_add, nI_mul, nI_cl, qin_eq, qofI, qlg_0, qlg_s, qls_i0, qls_r0, qls_l0, qls_1, qls_2, qkl_i, qkl_r, qkl_l, qkl_n, qIsI_i, qIsL_l, qIsR_r, qint_i, qil_i, qil_r, qil_l, qf4_0, qf4_1, qf4_2, qf4_3, qf2_0, qf2_1, qcs_n, qcs_i, qcs_r, qcs_l, qst_n, qst_c, qJ_0, qJ_st, qJ_go, qfl_I, qfl_Z, qfl_L, qfl_R, qrI_i, qrL_l, qrV_v, qRcv_0, qRcv_s, eq_self, true_and, and_true, true_or, or_true, false_and, and_false, false_or, or_false, ite_true, if_true, if_false, Bool.true_or, Bool.false_or, Bool.or_false, beq_self_eq_true, Bool.false_eq_true, bX12_openOnes_0, bX12_openOnes_4, bX12_openOnes_28, bX12_openOnes_34, kX12_openOnes_0, kX12_openOnes_4, kX12_openOnes_28, kX12_openOnes_34, qK_139, qR_139_0, qK_140, qR_139_1, qK_141, qR_139_5, qK_142, qR_139_6, qK_143, qR_139_7, qK_144, qR_139_8, qK_145, qR_139_9, qK_146, qR_139_21, qK_147, qR_139_25, qK_148, qR_139_30, qK_149, qR_139_31, qK_150, qR_139_33, qK_151, qR_139_34, qK_152, qR_139_35, qK_153, qR_139_36, qK_154, qR_139_39, qK_155, qR_139_40, qK_156, qR_139_41, qK_157]
  refine qdown (n := C 0 1) (P := fun q => qV 268 4 _ 4 [some (qr 139), some (qi (nI (bm q (zOpen C)))), some (qi (nI q))] [] σ) (fun q hq ih => ?_) 0 (Nat.zero_le _)
  refine qV.go 30 [4] ok_268 ?_
  simp only [qW_nop, qW_iconst, qW_iloadn, qW_aloadn, qW_istoren, qW_iinc, qW_ior, qW_ishl, qW_ifeq, qW_icge, qW_goto, qW_getf, qW_iald, qW_cv2_0, qW_iret0, Nat.reduceAdd, Nat.reduceMul, Nat.reduceBEq, Nat.reduceEqDiff, Nat.reduceLT, Nat.reduceLeDiff, Nat.zero_le, nI_add, nI_mul, nI_cl, qin_eq, qofI, qlg_0, qlg_s, qls_i0, qls_r0, qls_l0, qls_1, qls_2, qkl_i, qkl_r, qkl_l, qkl_n, qIsI_i, qIsL_l, qIsR_r, qint_i, qil_i, qil_r, qil_l, qf4_0, qf4_1, qf4_2, qf4_3, qf2_0, qf2_1, qcs_n, qcs_i, qcs_r, qcs_l, qst_n, qst_c, qJ_0, qJ_st, qJ_go, qfl_I, qfl_Z, qfl_L, qfl_R, qrI_i, qrL_l, qrV_v, qRcv_0, qRcv_s, eq_self, true_and, and_true, true_or, or_true, false_and, and_false, false_or, or_false, ite_true, if_true, if_false, Bool.true_or, Bool.false_or, Bool.or_false, beq_self_eq_true, Bool.false_eq_true, bX12_openOnes_0, bX12_openOnes_4, bX12_openOnes_28, bX12_openOnes_34, kX12_openOnes_0, kX12_openOnes_4, kX12_openOnes_28, kX12_openOnes_34, qK_139, qR_139_0, qK_140, qR_139_1, qK_141, qR_139_5, qK_142, qR_139_6, qK_143, qR_139_7, qK_144, qR_139_8, qK_145, qR_139_9, qK_146, qR_139_21, qK_147, qR_139_25, qK_148, qR_139_30, qK_149, qR_139_31, qK_150, qR_139_33, qK_151, qR_139_34, qK_152, qR_139_35, qK_153, qR_139_36, qK_154, qR_139_39, qK_155, qR_139_40, qK_156, qR_139_41, qK_157]
  rw [zM_s h 1 (by decide)]
  simp (disch := omega) only [nI_leI, nI_ltI, nI_eq, nI_cl, qin_eq, nI_add, nI_mul, qb_z, qb_t, qb_f, nI_ne0', Nat.reduceAdd, Bool.false_eq_true, if_false, if_true, true_and, and_true, Nat.reduceEqDiff, not_true_eq_false, not_false_eq_true, false_implies, true_implies, ite_true, ite_false]
  refine ⟨fun h1 => ?_, fun h1 => ?_⟩
  · rw [show q = C 0 1 by omega]; rfl
  · refine qBI.fn (m_isOpen h hw (by omega)) (by decide) ?_
    simp (disch := omega) only [nI_leI, nI_ltI, nI_eq, nI_cl, qin_eq, nI_add, nI_mul, qb_z, qb_t, qb_f, nI_ne0', Nat.reduceAdd, Bool.false_eq_true, if_false, if_true, true_and, and_true, Nat.reduceEqDiff, not_true_eq_false, not_false_eq_true, false_implies, true_implies, ite_true, ite_false]
    refine ⟨fun h2 => ?_, fun h2 => ?_⟩
    · rw [qset_not h2]; exact ih (by omega)
    · rw [qset_add (by omega) (by simpa using h2)]; exact ih (by omega)
set_option maxRecDepth 20000 in
theorem m_both {σ : qSg} {C : zC} (h : zM σ 0 C) (hw : zW C) {q : Nat} (hq : q < C 0 1) : qFI 3 267 [qr 139, qi (nI q)] σ (nI (zboth C q)) := by
  obtain ⟨wb, wq, ww1, ww2, wh1, wh2, wo, wm, wB, wQ⟩ := id hw
  have g := wQ q hq
  refine qCI.of [some (qr 139), some (qi (nI q))] ok_267 (Nat.le_of_ble_eq_true rfl) rfl ?_
  refine qV.go 30 [9999] ok_267 ?_
  simp only [qW_nop, qW_iconst, qW_iloadn, qW_aloadn, qW_ior, qW_ishl, qW_cv3_0, qW_iret0, Nat.reduceAdd, Nat.reduceMul, Nat.reduceBEq, Nat.reduceEqDiff, Nat.reduceLT, Nat.reduceLeDiff, Nat.zero_le, nI_add, nI_mul, nI_cl, qin_eq, qofI, qlg_0, qlg_s, qls_i0, qls_r0, qls_l0, qls_1, qls_2, qkl_i, qkl_r, qkl_l, qkl_n, qIsI_i, qIsL_l, qIsR_r, qint_i, qil_i, qil_r, qil_l, qf4_0, qf4_1, qf4_2, qf4_3, qf2_0, qf2_1, qcs_n, qcs_i, qcs_r, qcs_l, qst_n, qst_c, qJ_0, qJ_st, qJ_go, qfl_I, qfl_Z, qfl_L, qfl_R, qrI_i, qrL_l, qrV_v, qRcv_0, qRcv_s, eq_self, true_and, and_true, true_or, or_true, false_and, and_false, false_or, or_false, ite_true, if_true, if_false, Bool.true_or, Bool.false_or, Bool.or_false, beq_self_eq_true, Bool.false_eq_true, bX12_both_0, kX12_both_0, qK_139, qR_139_0, qK_140, qR_139_1, qK_141, qR_139_5, qK_142, qR_139_6, qK_143, qR_139_7, qK_144, qR_139_8, qK_145, qR_139_9, qK_146, qR_139_21, qK_147, qR_139_25, qK_148, qR_139_30, qK_149, qR_139_31, qK_150, qR_139_33, qK_151, qR_139_34, qK_152, qR_139_35, qK_153, qR_139_36, qK_154, qR_139_39, qK_155, qR_139_40, qK_156, qR_139_41, qK_157]
  refine qBI.fn (m_quarrelOf σ (by omega)) (by decide) (qBI.fn (m_quarrelOf σ (by omega)) (by decide) ?_)
  rw [zMq0 h hq, zMq1 h hq, qshl1 (by omega), qshl1 (by omega), nI_or]
  exact ⟨rfl, rfl⟩
set_option maxRecDepth 20000 in
theorem m_isIn (σ : qSg) {s k : Nat} (hs : s < 2147483648) (hk : k < 31) : qFI 1 262 [qr 139, qi (nI s), qi (nI k)] σ (qb (s.testBit k)) := by
  refine qCI.of [some (qr 139), some (qi (nI s)), some (qi (nI k))] ok_262 (Nat.le_of_ble_eq_true rfl) rfl ?_
  refine qV.go 30 [9999] ok_262 ?_
  simp only [qW_nop, qW_iconst, qW_iloadn, qW_iand, qW_ishr, qW_icne, qW_goto, qW_iret1, Nat.reduceAdd, Nat.reduceMul, Nat.reduceBEq, Nat.reduceEqDiff, Nat.reduceLT, Nat.reduceLeDiff, Nat.zero_le, nI_add, nI_mul, nI_cl, qin_eq, qofI, qlg_0, qlg_s, qls_i0, qls_r0, qls_l0, qls_1, qls_2, qkl_i, qkl_r, qkl_l, qkl_n, qIsI_i, qIsL_l, qIsR_r, qint_i, qil_i, qil_r, qil_l, qf4_0, qf4_1, qf4_2, qf4_3, qf2_0, qf2_1, qcs_n, qcs_i, qcs_r, qcs_l, qst_n, qst_c, qJ_0, qJ_st, qJ_go, qfl_I, qfl_Z, qfl_L, qfl_R, qrI_i, qrL_l, qrV_v, qRcv_0, qRcv_s, eq_self, true_and, and_true, true_or, or_true, false_and, and_false, false_or, or_false, ite_true, if_true, if_false, Bool.true_or, Bool.false_or, Bool.or_false, beq_self_eq_true, Bool.false_eq_true, bX12_isIn_0, bX12_isIn_13, bX12_isIn_14, kX12_isIn_0, kX12_isIn_13, kX12_isIn_14, qK_139, qR_139_0, qK_140, qR_139_1, qK_141, qR_139_5, qK_142, qR_139_6, qK_143, qR_139_7, qK_144, qR_139_8, qK_145, qR_139_9, qK_146, qR_139_21, qK_147, qR_139_25, qK_148, qR_139_30, qK_149, qR_139_31, qK_150, qR_139_33, qK_151, qR_139_34, qK_152, qR_139_35, qK_153, qR_139_36, qK_154, qR_139_39, qK_155, qR_139_40, qK_156, qR_139_41, qK_157]
  rw [nI_bit hk hs]
  cases s.testBit k <;> simp (disch := omega) only [nI_leI, nI_ltI, nI_eq, nI_cl, qin_eq, nI_add, nI_mul, qb_z, qb_t, qb_f, nI_ne0', Nat.reduceAdd, Bool.false_eq_true, if_false, if_true, true_and, and_true, Nat.reduceEqDiff, not_true_eq_false, not_false_eq_true, false_implies, true_implies, ite_true, ite_false]
  all_goals simp
set_option maxRecDepth 20000 in
theorem m_bits (σ : qSg) {s : Nat} (hs : s < 2147483648) : qFI 1 263 [qi (nI s)] σ (nI (zpop s)) := by
  refine qCI.of [some (qi (nI s)), none, none] ok_263 (Nat.le_of_ble_eq_true rfl) rfl ?_
  refine qV.go 30 [4] ok_263 ?_
  simp only [qW_nop, qW_iconst, qW_iloadn, qW_istoren, qW_iinc, qW_isub, qW_iand, qW_ifeq, qW_goto, qW_iret0, Nat.reduceAdd, Nat.reduceMul, Nat.reduceBEq, Nat.reduceEqDiff, Nat.reduceLT, Nat.reduceLeDiff, Nat.zero_le, nI_add, nI_mul, nI_cl, qin_eq, qofI, qlg_0, qlg_s, qls_i0, qls_r0, qls_l0, qls_1, qls_2, qkl_i, qkl_r, qkl_l, qkl_n, qIsI_i, qIsL_l, qIsR_r, qint_i, qil_i, qil_r, qil_l, qf4_0, qf4_1, qf4_2, qf4_3, qf2_0, qf2_1, qcs_n, qcs_i, qcs_r, qcs_l, qst_n, qst_c, qJ_0, qJ_st, qJ_go, qfl_I, qfl_Z, qfl_L, qfl_R, qrI_i, qrL_l, qrV_v, qRcv_0, qRcv_s, eq_self, true_and, and_true, true_or, or_true, false_and, and_false, false_or, or_false, ite_true, if_true, if_false, Bool.true_or, Bool.false_or, Bool.or_false, beq_self_eq_true, Bool.false_eq_true, bX12_bits_0, bX12_bits_4, bX12_bits_20, kX12_bits_0, kX12_bits_4, kX12_bits_20]
  have key : ∀ m k n, zpop k = m → k < 2147483648 → n + zpop k = zpop s → qV 263 1 (.inl fun r σ' => r = nI (zpop s) ∧ σ' = σ) 4 [some (qi (nI s)), some (qi (nI n)), some (qi (nI k))] [] σ := by
    intro m
    induction m with
    | zero =>
      intro k n hm hk hn
      refine qV.go 30 [4] ok_263 ?_
      simp only [qW_nop, qW_iconst, qW_iloadn, qW_istoren, qW_iinc, qW_isub, qW_iand, qW_ifeq, qW_goto, qW_iret0, Nat.reduceAdd, Nat.reduceMul, Nat.reduceBEq, Nat.reduceEqDiff, Nat.reduceLT, Nat.reduceLeDiff, Nat.zero_le, nI_add, nI_mul, nI_cl, qin_eq, qofI, qlg_0, qlg_s, qls_i0, qls_r0, qls_l0, qls_1, qls_2, qkl_i, qkl_r, qkl_l, qkl_n, qIsI_i, qIsL_l, qIsR_r, qint_i, qil_i, qil_r, qil_l, qf4_0, qf4_1, qf4_2, qf4_3, qf2_0, qf2_1, qcs_n, qcs_i, qcs_r, qcs_l, qst_n, qst_c, qJ_0, qJ_st, qJ_go, qfl_I, qfl_Z, qfl_L, qfl_R, qrI_i, qrL_l, qrV_v, qRcv_0, qRcv_s, eq_self, true_and, and_true, true_or, or_true, false_and, and_false, false_or, or_false, ite_true, if_true, if_false, Bool.true_or, Bool.false_or, Bool.or_false, beq_self_eq_true, Bool.false_eq_true, bX12_bits_0, bX12_bits_4, bX12_bits_20, kX12_bits_0, kX12_bits_4, kX12_bits_20]
      have h0 : k = 0 := by
        rcases Nat.eq_zero_or_pos k with h | h
        · exact h
        · have := zpopf_pos 32 k (by omega) (by omega)
          unfold zpop at hm
          omega
      subst h0
      simp (disch := omega) only [nI_leI, nI_ltI, nI_eq, nI_cl, qin_eq, nI_add, nI_mul, qb_z, qb_t, qb_f, nI_ne0', Nat.reduceAdd, Bool.false_eq_true, if_false, if_true, true_and, and_true, Nat.reduceEqDiff, not_true_eq_false, not_false_eq_true, false_implies, true_implies, ite_true, ite_false]
      rw [show n = zpop s by omega]
    | succ m ih =>
      intro k n hm hk hn
      refine qV.go 30 [4] ok_263 ?_
      simp only [qW_nop, qW_iconst, qW_iloadn, qW_istoren, qW_iinc, qW_isub, qW_iand, qW_ifeq, qW_goto, qW_iret0, Nat.reduceAdd, Nat.reduceMul, Nat.reduceBEq, Nat.reduceEqDiff, Nat.reduceLT, Nat.reduceLeDiff, Nat.zero_le, nI_add, nI_mul, nI_cl, qin_eq, qofI, qlg_0, qlg_s, qls_i0, qls_r0, qls_l0, qls_1, qls_2, qkl_i, qkl_r, qkl_l, qkl_n, qIsI_i, qIsL_l, qIsR_r, qint_i, qil_i, qil_r, qil_l, qf4_0, qf4_1, qf4_2, qf4_3, qf2_0, qf2_1, qcs_n, qcs_i, qcs_r, qcs_l, qst_n, qst_c, qJ_0, qJ_st, qJ_go, qfl_I, qfl_Z, qfl_L, qfl_R, qrI_i, qrL_l, qrV_v, qRcv_0, qRcv_s, eq_self, true_and, and_true, true_or, or_true, false_and, and_false, false_or, or_false, ite_true, if_true, if_false, Bool.true_or, Bool.false_or, Bool.or_false, beq_self_eq_true, Bool.false_eq_true, bX12_bits_0, bX12_bits_4, bX12_bits_20, kX12_bits_0, kX12_bits_4, kX12_bits_20]
      have h0 : k ≠ 0 := by
        intro h
        subst h
        rw [zpop_0] at hm
        omega
      have h1 := zpop_clear h0 (by omega)
      rw [nI_sub (by omega), nI_and]
      simp (disch := omega) only [nI_leI, nI_ltI, nI_eq, nI_cl, qin_eq, nI_add, nI_mul, qb_z, qb_t, qb_f, nI_ne0', Nat.reduceAdd, Bool.false_eq_true, if_false, if_true, true_and, and_true, Nat.reduceEqDiff, not_true_eq_false, not_false_eq_true, false_implies, true_implies, ite_true, ite_false]
      exact ⟨fun h => absurd h h0, fun _ => ih _ _ (by omega) (Nat.lt_of_le_of_lt Nat.and_le_left hk) (by omega)⟩
  exact key _ s 0 rfl hs (by omega)
set_option maxRecDepth 20000 in
theorem m_openOf {σ : qSg} {C : zC} (h : zM σ 0 C) (hw : zW C) {b : Nat} (hb : b < C 0 0) : qFI 4 269 [qr 139, qi (nI b)] σ (nI (zof C b)) := by
  obtain ⟨wb, wq, ww1, ww2, wh1, wh2, wo, wm, wB, wQ⟩ := id hw
  refine qCI.of [some (qr 139), some (qi (nI b)), none, none] ok_269 (Nat.le_of_ble_eq_true rfl) rfl ?_
  refine qV.go 30 [4] ok_269 ?_
  simp only [qW_nop, qW_iconst, qW_iloadn, qW_aloadn, qW_istoren, qW_iinc, qW_ior, qW_ishl, qW_ifeq, qW_icge, qW_goto, qW_getf, qW_iald, qW_cv2_0, qW_cv3_0, qW_iret0, Nat.reduceAdd, Nat.reduceMul, Nat.reduceBEq, Nat.reduceEqDiff, Nat.reduceLT, Nat.reduceLeDiff, Nat.zero_le, nI_add, nI_mul, nI_cl, qin_eq, qofI, qlg_0, qlg_s, qls_i0, qls_r0, qls_l0, qls_1, qls_2, qkl_i, qkl_r, qkl_l, qkl_n, qIsI_i, qIsL_l, qIsR_r, qint_i, qil_i, qil_r, qil_l, qf4_0, qf4_1, qf4_2, qf4_3, qf2_0, qf2_1, qcs_n, qcs_i, qcs_r, qcs_l, qst_n, qst_c, qJ_0, qJ_st, qJ_go, qfl_I, qfl_Z, qfl_L, qfl_R, qrI_i, qrL_l, qrV_v, qRcv_0, qRcv_s, eq_self, true_and, and_true, true_or, or_true, false_and, and_false, false_or, or_false, ite_true, if_true, if_false, Bool.true_or, Bool.false_or, Bool.or_false, beq_self_eq_true, Bool.false_eq_true, bX12_openOf_0, bX12_openOf_4, bX12_openOf_41, bX12_openOf_47, kX12_openOf_0, kX12_openOf_4, kX12_openOf_41, kX12_openOf_47, qK_139, qR_139_0, qK_140, qR_139_1, qK_141, qR_139_5, qK_142, qR_139_6, qK_143, qR_139_7, qK_144, qR_139_8, qK_145, qR_139_9, qK_146, qR_139_21, qK_147, qR_139_25, qK_148, qR_139_30, qK_149, qR_139_31, qK_150, qR_139_33, qK_151, qR_139_34, qK_152, qR_139_35, qK_153, qR_139_36, qK_154, qR_139_39, qK_155, qR_139_40, qK_156, qR_139_41, qK_157]
  refine qdown (n := C 0 1) (P := fun q => qV 269 4 _ 4 [some (qr 139), some (qi (nI b)), some (qi (nI (bm q (fun q => zOpen C q && zin C q b)))), some (qi (nI q))] [] σ) (fun q hq ih => ?_) 0 (Nat.zero_le _)
  refine qV.go 30 [4] ok_269 ?_
  simp only [qW_nop, qW_iconst, qW_iloadn, qW_aloadn, qW_istoren, qW_iinc, qW_ior, qW_ishl, qW_ifeq, qW_icge, qW_goto, qW_getf, qW_iald, qW_cv2_0, qW_cv3_0, qW_iret0, Nat.reduceAdd, Nat.reduceMul, Nat.reduceBEq, Nat.reduceEqDiff, Nat.reduceLT, Nat.reduceLeDiff, Nat.zero_le, nI_add, nI_mul, nI_cl, qin_eq, qofI, qlg_0, qlg_s, qls_i0, qls_r0, qls_l0, qls_1, qls_2, qkl_i, qkl_r, qkl_l, qkl_n, qIsI_i, qIsL_l, qIsR_r, qint_i, qil_i, qil_r, qil_l, qf4_0, qf4_1, qf4_2, qf4_3, qf2_0, qf2_1, qcs_n, qcs_i, qcs_r, qcs_l, qst_n, qst_c, qJ_0, qJ_st, qJ_go, qfl_I, qfl_Z, qfl_L, qfl_R, qrI_i, qrL_l, qrV_v, qRcv_0, qRcv_s, eq_self, true_and, and_true, true_or, or_true, false_and, and_false, false_or, or_false, ite_true, if_true, if_false, Bool.true_or, Bool.false_or, Bool.or_false, beq_self_eq_true, Bool.false_eq_true, bX12_openOf_0, bX12_openOf_4, bX12_openOf_41, bX12_openOf_47, kX12_openOf_0, kX12_openOf_4, kX12_openOf_41, kX12_openOf_47, qK_139, qR_139_0, qK_140, qR_139_1, qK_141, qR_139_5, qK_142, qR_139_6, qK_143, qR_139_7, qK_144, qR_139_8, qK_145, qR_139_9, qK_146, qR_139_21, qK_147, qR_139_25, qK_148, qR_139_30, qK_149, qR_139_31, qK_150, qR_139_33, qK_151, qR_139_34, qK_152, qR_139_35, qK_153, qR_139_36, qK_154, qR_139_39, qK_155, qR_139_40, qK_156, qR_139_41, qK_157]
  rw [zM_s h 1 (by decide)]
  simp (disch := omega) only [nI_leI, nI_ltI, nI_eq, nI_cl, qin_eq, nI_add, nI_mul, qb_z, qb_t, qb_f, nI_ne0', Nat.reduceAdd, Bool.false_eq_true, if_false, if_true, true_and, and_true, Nat.reduceEqDiff, not_true_eq_false, not_false_eq_true, false_implies, true_implies, ite_true, ite_false]
  refine ⟨fun h1 => ?_, fun h1 => ?_⟩
  · rw [show q = C 0 1 by omega]; rfl
  · have hq1 : q < C 0 1 := by omega
    refine qBI.fn (m_isOpen h hw hq1) (by decide) ?_
    simp (disch := omega) only [nI_leI, nI_ltI, nI_eq, nI_cl, qin_eq, nI_add, nI_mul, qb_z, qb_t, qb_f, nI_ne0', Nat.reduceAdd, Bool.false_eq_true, if_false, if_true, true_and, and_true, Nat.reduceEqDiff, not_true_eq_false, not_false_eq_true, false_implies, true_implies, ite_true, ite_false]
    refine ⟨fun h2 => ?_, fun h2 => ?_⟩
    · rw [qset_not (by simp [h2])]; exact ih hq1
    · refine qBI.fn (m_both h hw hq1) (by decide) ?_
      have hl := zboth_lt hw hq1
      refine qBI.fn (m_isIn σ (by omega) (by omega)) (by decide) ?_
      rw [zboth_bit]
      simp (disch := omega) only [nI_leI, nI_ltI, nI_eq, nI_cl, qin_eq, nI_add, nI_mul, qb_z, qb_t, qb_f, nI_ne0', Nat.reduceAdd, Bool.false_eq_true, if_false, if_true, true_and, and_true, Nat.reduceEqDiff, not_true_eq_false, not_false_eq_true, false_implies, true_implies, ite_true, ite_false]
      refine ⟨fun h3 => ?_, fun h3 => ?_⟩
      · rw [qset_not (by simp [h3])]; exact ih hq1
      · rw [qset_add (by omega) (by simp [h2, h3])]; exact ih hq1
set_option maxRecDepth 20000 in
theorem m_areUp {σ : qSg} {C : zC} (h : zM σ 0 C) (hw : zW C) : qFI 5 270 [qr 139] σ (nI (zups C)) := by
  obtain ⟨wb, wq, ww1, ww2, wh1, wh2, wo, wm, wB, wQ⟩ := id hw
  refine qCI.of [some (qr 139), none, none] ok_270 (Nat.le_of_ble_eq_true rfl) rfl ?_
  refine qV.go 30 [4] ok_270 ?_
  simp only [qW_nop, qW_iconst, qW_iloadn, qW_aloadn, qW_istoren, qW_iinc, qW_ior, qW_ishl, qW_ifne, qW_icge, qW_goto, qW_getf, qW_iald, qW_cv2_0, qW_iret0, Nat.reduceAdd, Nat.reduceMul, Nat.reduceBEq, Nat.reduceEqDiff, Nat.reduceLT, Nat.reduceLeDiff, Nat.zero_le, nI_add, nI_mul, nI_cl, qin_eq, qofI, qlg_0, qlg_s, qls_i0, qls_r0, qls_l0, qls_1, qls_2, qkl_i, qkl_r, qkl_l, qkl_n, qIsI_i, qIsL_l, qIsR_r, qint_i, qil_i, qil_r, qil_l, qf4_0, qf4_1, qf4_2, qf4_3, qf2_0, qf2_1, qcs_n, qcs_i, qcs_r, qcs_l, qst_n, qst_c, qJ_0, qJ_st, qJ_go, qfl_I, qfl_Z, qfl_L, qfl_R, qrI_i, qrL_l, qrV_v, qRcv_0, qRcv_s, eq_self, true_and, and_true, true_or, or_true, false_and, and_false, false_or, or_false, ite_true, if_true, if_false, Bool.true_or, Bool.false_or, Bool.or_false, beq_self_eq_true, Bool.false_eq_true, bX12_areUp_0, bX12_areUp_4, bX12_areUp_28, bX12_areUp_34, kX12_areUp_0, kX12_areUp_4, kX12_areUp_28, kX12_areUp_34, qK_139, qR_139_0, qK_140, qR_139_1, qK_141, qR_139_5, qK_142, qR_139_6, qK_143, qR_139_7, qK_144, qR_139_8, qK_145, qR_139_9, qK_146, qR_139_21, qK_147, qR_139_25, qK_148, qR_139_30, qK_149, qR_139_31, qK_150, qR_139_33, qK_151, qR_139_34, qK_152, qR_139_35, qK_153, qR_139_36, qK_154, qR_139_39, qK_155, qR_139_40, qK_156, qR_139_41, qK_157]
  refine qdown (n := C 0 0) (P := fun q => qV 270 5 _ 4 [some (qr 139), some (qi (nI (bm q (zUp C)))), some (qi (nI q))] [] σ) (fun q hq ih => ?_) 0 (Nat.zero_le _)
  refine qV.go 30 [4] ok_270 ?_
  simp only [qW_nop, qW_iconst, qW_iloadn, qW_aloadn, qW_istoren, qW_iinc, qW_ior, qW_ishl, qW_ifne, qW_icge, qW_goto, qW_getf, qW_iald, qW_cv2_0, qW_iret0, Nat.reduceAdd, Nat.reduceMul, Nat.reduceBEq, Nat.reduceEqDiff, Nat.reduceLT, Nat.reduceLeDiff, Nat.zero_le, nI_add, nI_mul, nI_cl, qin_eq, qofI, qlg_0, qlg_s, qls_i0, qls_r0, qls_l0, qls_1, qls_2, qkl_i, qkl_r, qkl_l, qkl_n, qIsI_i, qIsL_l, qIsR_r, qint_i, qil_i, qil_r, qil_l, qf4_0, qf4_1, qf4_2, qf4_3, qf2_0, qf2_1, qcs_n, qcs_i, qcs_r, qcs_l, qst_n, qst_c, qJ_0, qJ_st, qJ_go, qfl_I, qfl_Z, qfl_L, qfl_R, qrI_i, qrL_l, qrV_v, qRcv_0, qRcv_s, eq_self, true_and, and_true, true_or, or_true, false_and, and_false, false_or, or_false, ite_true, if_true, if_false, Bool.true_or, Bool.false_or, Bool.or_false, beq_self_eq_true, Bool.false_eq_true, bX12_areUp_0, bX12_areUp_4, bX12_areUp_28, bX12_areUp_34, kX12_areUp_0, kX12_areUp_4, kX12_areUp_28, kX12_areUp_34, qK_139, qR_139_0, qK_140, qR_139_1, qK_141, qR_139_5, qK_142, qR_139_6, qK_143, qR_139_7, qK_144, qR_139_8, qK_145, qR_139_9, qK_146, qR_139_21, qK_147, qR_139_25, qK_148, qR_139_30, qK_149, qR_139_31, qK_150, qR_139_33, qK_151, qR_139_34, qK_152, qR_139_35, qK_153, qR_139_36, qK_154, qR_139_39, qK_155, qR_139_40, qK_156, qR_139_41, qK_157]
  rw [zM_s h 0 (by decide)]
  simp (disch := omega) only [nI_leI, nI_ltI, nI_eq, nI_cl, qin_eq, nI_add, nI_mul, qb_z, qb_t, qb_f, nI_ne0', Nat.reduceAdd, Bool.false_eq_true, if_false, if_true, true_and, and_true, Nat.reduceEqDiff, not_true_eq_false, not_false_eq_true, false_implies, true_implies, ite_true, ite_false]
  refine ⟨fun h1 => ?_, fun h1 => ?_⟩
  · rw [show q = C 0 0 by omega]; rfl
  · have hq1 : q < C 0 0 := by omega
    refine qBI.fn (m_openOf h hw hq1) (by decide) ?_
    have hl := zof_lt hw q
    simp (disch := omega) only [nI_leI, nI_ltI, nI_eq, nI_cl, qin_eq, nI_add, nI_mul, qb_z, qb_t, qb_f, nI_ne0', Nat.reduceAdd, Bool.false_eq_true, if_false, if_true, true_and, and_true, Nat.reduceEqDiff, not_true_eq_false, not_false_eq_true, false_implies, true_implies, ite_true, ite_false]
    refine ⟨fun h2 => ?_, fun h2 => ?_⟩
    · rw [qset_not (by simp [zUp, h2])]; exact ih hq1
    · rw [qset_add (by omega) (by simpa [zUp] using h2)]; exact ih hq1
set_option maxRecDepth 20000 in
theorem m_off (σ : qSg) {a b : Nat} (ha : a < 1000000) (hb : b < 1000000) : qFI 1 271 [qi (nI a - nI b)] σ (nI (zdist a b)) := by
  refine qCI.of [some (qi (nI a - nI b))] ok_271 (Nat.le_of_ble_eq_true rfl) rfl ?_
  refine qV.go 30 [9999] ok_271 ?_
  simp only [qW_nop, qW_iloadn, qW_ineg, qW_ifge, qW_goto, qW_iret0, Nat.reduceAdd, Nat.reduceMul, Nat.reduceBEq, Nat.reduceEqDiff, Nat.reduceLT, Nat.reduceLeDiff, Nat.zero_le, nI_add, nI_mul, nI_cl, qin_eq, qofI, qlg_0, qlg_s, qls_i0, qls_r0, qls_l0, qls_1, qls_2, qkl_i, qkl_r, qkl_l, qkl_n, qIsI_i, qIsL_l, qIsR_r, qint_i, qil_i, qil_r, qil_l, qf4_0, qf4_1, qf4_2, qf4_3, qf2_0, qf2_1, qcs_n, qcs_i, qcs_r, qcs_l, qst_n, qst_c, qJ_0, qJ_st, qJ_go, qfl_I, qfl_Z, qfl_L, qfl_R, qrI_i, qrL_l, qrV_v, qRcv_0, qRcv_s, eq_self, true_and, and_true, true_or, or_true, false_and, and_false, false_or, or_false, ite_true, if_true, if_false, Bool.true_or, Bool.false_or, Bool.or_false, beq_self_eq_true, Bool.false_eq_true, bX12_off_0, bX12_off_9, bX12_off_10, kX12_off_0, kX12_off_9, kX12_off_10]
  have e : nI a - nI b = iI ((a : Int) - (b : Int)) := by rw [iI_nat, iI_nat, iI_sub]
  rw [e, qge0, iI_toInt (by omega) (by omega), iI_neg]
  refine ⟨fun h1 => ?_, fun h1 => ?_⟩
  · rw [iI_nat]; congr 1; unfold zdist; omega
  · rw [iI_nat]; congr 1; unfold zdist; omega
set_option maxRecDepth 20000 in
theorem m_apartOf {σ : qSg} {C : zC} (h : zM σ 0 C) (hw : zW C) {a b : Nat} (ha : a < C 0 0) (hb : b < C 0 0) : qFI 3 272 [qr 139, qi (nI a), qi (nI b)] σ (nI (zfar C a b)) := by
  obtain ⟨wb, wq, ww1, ww2, wh1, wh2, wo, wm, wB, wQ⟩ := id hw
  have g1 := wB a ha
  have g2 := wB b hb
  have gm : C 0 2 * C 0 3 ≤ 6 * 6 := Nat.mul_le_mul ww2 wh2
  refine qCI.of [some (qr 139), some (qi (nI a)), some (qi (nI b)), none, none] ok_272 (Nat.le_of_ble_eq_true rfl) rfl ?_
  refine qV.go 30 [9999] ok_272 ?_
  simp only [qW_nop, qW_iconst, qW_iloadn, qW_iload, qW_aloadn, qW_istoren, qW_istore, qW_iadd, qW_isub, qW_idiv, qW_irem, qW_getf, qW_iald, qW_cs1_0, qW_cv3_0, qW_iret0, Nat.reduceAdd, Nat.reduceMul, Nat.reduceBEq, Nat.reduceEqDiff, Nat.reduceLT, Nat.reduceLeDiff, Nat.zero_le, nI_add, nI_mul, nI_cl, qin_eq, qofI, qlg_0, qlg_s, qls_i0, qls_r0, qls_l0, qls_1, qls_2, qkl_i, qkl_r, qkl_l, qkl_n, qIsI_i, qIsL_l, qIsR_r, qint_i, qil_i, qil_r, qil_l, qf4_0, qf4_1, qf4_2, qf4_3, qf2_0, qf2_1, qcs_n, qcs_i, qcs_r, qcs_l, qst_n, qst_c, qJ_0, qJ_st, qJ_go, qfl_I, qfl_Z, qfl_L, qfl_R, qrI_i, qrL_l, qrV_v, qRcv_0, qRcv_s, eq_self, true_and, and_true, true_or, or_true, false_and, and_false, false_or, or_false, ite_true, if_true, if_false, Bool.true_or, Bool.false_or, Bool.or_false, beq_self_eq_true, Bool.false_eq_true, bX12_apartOf_0, kX12_apartOf_0, qK_139, qR_139_0, qK_140, qR_139_1, qK_141, qR_139_5, qK_142, qR_139_6, qK_143, qR_139_7, qK_144, qR_139_8, qK_145, qR_139_9, qK_146, qR_139_21, qK_147, qR_139_25, qK_148, qR_139_30, qK_149, qR_139_31, qK_150, qR_139_33, qK_151, qR_139_34, qK_152, qR_139_35, qK_153, qR_139_36, qK_154, qR_139_39, qK_155, qR_139_40, qK_156, qR_139_41, qK_157]
  refine qBI.fn (m_boyOf σ (by omega)) (by decide) (qBI.fn (m_boyOf σ (by omega)) (by decide) ?_)
  rw [zMb0 h ha, zMb0 h hb, zM_s h 2 (by decide), nI_rem (by omega) (by omega) (by omega), nI_rem (by omega) (by omega) (by omega)]
  have m1 := Nat.mod_lt (C 1 a) (show C 0 2 > 0 by omega)
  have m2 := Nat.mod_lt (C 1 b) (show C 0 2 > 0 by omega)
  have d1 := Nat.div_le_self (C 1 a) (C 0 2)
  have d2 := Nat.div_le_self (C 1 b) (C 0 2)
  simp (disch := omega) only [nI_leI, nI_ltI, nI_eq, nI_cl, qin_eq, nI_add, nI_mul, qb_z, qb_t, qb_f, nI_ne0', Nat.reduceAdd, Bool.false_eq_true, if_false, if_true, true_and, and_true, Nat.reduceEqDiff, not_true_eq_false, not_false_eq_true, false_implies, true_implies, ite_true, ite_false]
  refine ⟨by omega, by omega, qBI.fn (m_off σ (by omega) (by omega)) (by decide) ?_⟩
  rw [zM_s h 2 (by decide), nI_div (by omega) (by omega) (by omega), nI_div (by omega) (by omega) (by omega)]
  simp (disch := omega) only [nI_leI, nI_ltI, nI_eq, nI_cl, qin_eq, nI_add, nI_mul, qb_z, qb_t, qb_f, nI_ne0', Nat.reduceAdd, Bool.false_eq_true, if_false, if_true, true_and, and_true, Nat.reduceEqDiff, not_true_eq_false, not_false_eq_true, false_implies, true_implies, ite_true, ite_false]
  refine ⟨by omega, by omega, qBI.fn (m_off σ (by omega) (by omega)) (by decide) ?_⟩
  simp (disch := omega) only [nI_leI, nI_ltI, nI_eq, nI_cl, qin_eq, nI_add, nI_mul, qb_z, qb_t, qb_f, nI_ne0', Nat.reduceAdd, Bool.false_eq_true, if_false, if_true, true_and, and_true, Nat.reduceEqDiff, not_true_eq_false, not_false_eq_true, false_implies, true_implies, ite_true, ite_false]
  rfl
theorem zfar_lt {C : zC} (hw : zW C) {a b : Nat} (ha : a < C 0 0) (hb : b < C 0 0) : zfar C a b < 100 := by
  obtain ⟨wb, wq, ww1, ww2, wh1, wh2, wo, wm, wB, wQ⟩ := id hw
  have g1 := wB a ha
  have g2 := wB b hb
  have gm : C 0 2 * C 0 3 ≤ 6 * 6 := Nat.mul_le_mul ww2 wh2
  have m1 := Nat.mod_lt (C 1 a) (show C 0 2 > 0 by omega)
  have m2 := Nat.mod_lt (C 1 b) (show C 0 2 > 0 by omega)
  have d1 := Nat.div_le_self (C 1 a) (C 0 2)
  have d2 := Nat.div_le_self (C 1 b) (C 0 2)
  unfold zfar zdist
  generalize C 1 a % C 0 2 = x1 at m1 ⊢
  generalize C 1 b % C 0 2 = x2 at m2 ⊢
  generalize C 1 a / C 0 2 = x3 at d1 ⊢
  generalize C 1 b / C 0 2 = x4 at d2 ⊢
  omega
set_option maxRecDepth 20000 in
theorem m_nearOf {σ : qSg} {C : zC} (h : zM σ 0 C) (hw : zW C) {b : Nat} (hb : b < C 0 0) : qFI 4 273 [qr 139, qi (nI b)] σ (nI (znear C b)) := by
  obtain ⟨wb, wq, ww1, ww2, wh1, wh2, wo, wm, wB, wQ⟩ := id hw
  have g1 := wB b hb
  refine qCI.of [some (qr 139), some (qi (nI b)), none, none] ok_273 (Nat.le_of_ble_eq_true rfl) rfl ?_
  refine qV.go 30 [4] ok_273 ?_
  simp only [qW_nop, qW_iconst, qW_iloadn, qW_aloadn, qW_istoren, qW_iinc, qW_ior, qW_ishl, qW_iceq, qW_icge, qW_icgt, qW_goto, qW_getf, qW_iald, qW_cv3_0, qW_iret0, Nat.reduceAdd, Nat.reduceMul, Nat.reduceBEq, Nat.reduceEqDiff, Nat.reduceLT, Nat.reduceLeDiff, Nat.zero_le, nI_add, nI_mul, nI_cl, qin_eq, qofI, qlg_0, qlg_s, qls_i0, qls_r0, qls_l0, qls_1, qls_2, qkl_i, qkl_r, qkl_l, qkl_n, qIsI_i, qIsL_l, qIsR_r, qint_i, qil_i, qil_r, qil_l, qf4_0, qf4_1, qf4_2, qf4_3, qf2_0, qf2_1, qcs_n, qcs_i, qcs_r, qcs_l, qst_n, qst_c, qJ_0, qJ_st, qJ_go, qfl_I, qfl_Z, qfl_L, qfl_R, qrI_i, qrL_l, qrV_v, qRcv_0, qRcv_s, eq_self, true_and, and_true, true_or, or_true, false_and, and_false, false_or, or_false, ite_true, if_true, if_false, Bool.true_or, Bool.false_or, Bool.or_false, beq_self_eq_true, Bool.false_eq_true, bX12_nearOf_0, bX12_nearOf_4, bX12_nearOf_40, bX12_nearOf_46, kX12_nearOf_0, kX12_nearOf_4, kX12_nearOf_40, kX12_nearOf_46, qK_139, qR_139_0, qK_140, qR_139_1, qK_141, qR_139_5, qK_142, qR_139_6, qK_143, qR_139_7, qK_144, qR_139_8, qK_145, qR_139_9, qK_146, qR_139_21, qK_147, qR_139_25, qK_148, qR_139_30, qK_149, qR_139_31, qK_150, qR_139_33, qK_151, qR_139_34, qK_152, qR_139_35, qK_153, qR_139_36, qK_154, qR_139_39, qK_155, qR_139_40, qK_156, qR_139_41, qK_157]
  refine qdown (n := C 0 0) (P := fun q => qV 273 4 _ 4 [some (qr 139), some (qi (nI b)), some (qi (nI (bm q (fun o => decide (o ≠ b) && decide (zfar C o b ≤ C 4 b))))), some (qi (nI q))] [] σ) (fun q hq ih => ?_) 0 (Nat.zero_le _)
  refine qV.go 30 [4] ok_273 ?_
  simp only [qW_nop, qW_iconst, qW_iloadn, qW_aloadn, qW_istoren, qW_iinc, qW_ior, qW_ishl, qW_iceq, qW_icge, qW_icgt, qW_goto, qW_getf, qW_iald, qW_cv3_0, qW_iret0, Nat.reduceAdd, Nat.reduceMul, Nat.reduceBEq, Nat.reduceEqDiff, Nat.reduceLT, Nat.reduceLeDiff, Nat.zero_le, nI_add, nI_mul, nI_cl, qin_eq, qofI, qlg_0, qlg_s, qls_i0, qls_r0, qls_l0, qls_1, qls_2, qkl_i, qkl_r, qkl_l, qkl_n, qIsI_i, qIsL_l, qIsR_r, qint_i, qil_i, qil_r, qil_l, qf4_0, qf4_1, qf4_2, qf4_3, qf2_0, qf2_1, qcs_n, qcs_i, qcs_r, qcs_l, qst_n, qst_c, qJ_0, qJ_st, qJ_go, qfl_I, qfl_Z, qfl_L, qfl_R, qrI_i, qrL_l, qrV_v, qRcv_0, qRcv_s, eq_self, true_and, and_true, true_or, or_true, false_and, and_false, false_or, or_false, ite_true, if_true, if_false, Bool.true_or, Bool.false_or, Bool.or_false, beq_self_eq_true, Bool.false_eq_true, bX12_nearOf_0, bX12_nearOf_4, bX12_nearOf_40, bX12_nearOf_46, kX12_nearOf_0, kX12_nearOf_4, kX12_nearOf_40, kX12_nearOf_46, qK_139, qR_139_0, qK_140, qR_139_1, qK_141, qR_139_5, qK_142, qR_139_6, qK_143, qR_139_7, qK_144, qR_139_8, qK_145, qR_139_9, qK_146, qR_139_21, qK_147, qR_139_25, qK_148, qR_139_30, qK_149, qR_139_31, qK_150, qR_139_33, qK_151, qR_139_34, qK_152, qR_139_35, qK_153, qR_139_36, qK_154, qR_139_39, qK_155, qR_139_40, qK_156, qR_139_41, qK_157]
  rw [zM_s h 0 (by decide)]
  simp (disch := omega) only [nI_leI, nI_ltI, nI_eq, nI_cl, qin_eq, nI_add, nI_mul, qb_z, qb_t, qb_f, nI_ne0', Nat.reduceAdd, Bool.false_eq_true, if_false, if_true, true_and, and_true, Nat.reduceEqDiff, not_true_eq_false, not_false_eq_true, false_implies, true_implies, ite_true, ite_false]
  refine ⟨fun h1 => ?_, fun h1 => ?_⟩
  · rw [show q = C 0 0 by omega]; rfl
  · have hq1 : q < C 0 0 := by omega
    have hf := zfar_lt hw hq1 hb
    refine ⟨fun h2 => ?_, fun h2 => ?_⟩
    · rw [qset_not (by simp [h2])]; exact ih hq1
    · refine qBI.fn (m_apartOf h hw hq1 hb) (by decide) (qBI.fn (m_boyOf σ (by omega)) (by decide) ?_)
      rw [zMb3 h hb]
      simp (disch := omega) only [nI_leI, nI_ltI, nI_eq, nI_cl, qin_eq, nI_add, nI_mul, qb_z, qb_t, qb_f, nI_ne0', Nat.reduceAdd, Bool.false_eq_true, if_false, if_true, true_and, and_true, Nat.reduceEqDiff, not_true_eq_false, not_false_eq_true, false_implies, true_implies, ite_true, ite_false]
      refine ⟨fun h3 => ?_, fun h3 => ?_⟩
      · rw [qset_not (by simp; omega)]; exact ih hq1
      · rw [qset_add (by omega) (by simp; omega)]; exact ih hq1
set_option maxRecDepth 20000 in
theorem m_dueOf {σ : qSg} {C : zC} (h : zM σ 0 C) (hw : zW C) {b q up : Nat} (hb : b < C 0 0) (hq : q < C 0 1) (hu : up < 2147483648) : qFI 5 274 [qr 139, qi (nI b), qi (nI q), qi (nI up)] σ (iI (zdue C b q up)) := by
  obtain ⟨wb, wq, ww1, ww2, wh1, wh2, wo, wm, wB, wQ⟩ := id hw
  have g1 := wB b hb
  refine qCI.of [some (qr 139), some (qi (nI b)), some (qi (nI q)), some (qi (nI up))] ok_274 (Nat.le_of_ble_eq_true rfl) rfl ?_
  refine qV.go 30 [9999] ok_274 ?_
  simp only [qW_nop, qW_iconst, qW_iloadn, qW_aloadn, qW_iadd, qW_isub, qW_imul, qW_iand, qW_cs1_0, qW_cv2_0, qW_cv3_0, qW_iret0, Nat.reduceAdd, Nat.reduceMul, Nat.reduceBEq, Nat.reduceEqDiff, Nat.reduceLT, Nat.reduceLeDiff, Nat.zero_le, nI_add, nI_mul, nI_cl, qin_eq, qofI, qlg_0, qlg_s, qls_i0, qls_r0, qls_l0, qls_1, qls_2, qkl_i, qkl_r, qkl_l, qkl_n, qIsI_i, qIsL_l, qIsR_r, qint_i, qil_i, qil_r, qil_l, qf4_0, qf4_1, qf4_2, qf4_3, qf2_0, qf2_1, qcs_n, qcs_i, qcs_r, qcs_l, qst_n, qst_c, qJ_0, qJ_st, qJ_go, qfl_I, qfl_Z, qfl_L, qfl_R, qrI_i, qrL_l, qrV_v, qRcv_0, qRcv_s, eq_self, true_and, and_true, true_or, or_true, false_and, and_false, false_or, or_false, ite_true, if_true, if_false, Bool.true_or, Bool.false_or, Bool.or_false, beq_self_eq_true, Bool.false_eq_true, bX12_dueOf_0, kX12_dueOf_0, qK_139, qR_139_0, qK_140, qR_139_1, qK_141, qR_139_5, qK_142, qR_139_6, qK_143, qR_139_7, qK_144, qR_139_8, qK_145, qR_139_9, qK_146, qR_139_21, qK_147, qR_139_25, qK_148, qR_139_30, qK_149, qR_139_31, qK_150, qR_139_33, qK_151, qR_139_34, qK_152, qR_139_35, qK_153, qR_139_36, qK_154, qR_139_39, qK_155, qR_139_40, qK_156, qR_139_41, qK_157]
  have hl := znear_lt hw b
  refine qBI.fn (m_quarrelOf σ (by omega)) (by decide) (qBI.fn (m_boyOf σ (by omega)) (by decide) (qBI.fn (m_boyOf σ (by omega)) (by decide) (qBI.fn (m_nearOf h hw hb) (by decide) ?_)))
  rw [nI_and]
  refine qBI.fn (m_bits σ (Nat.lt_trans (zand_lt hl) (by decide))) (by decide) ?_
  rw [zMq2 h hq, zMb1 h hb, zMb2 h hb]
  refine ⟨?_, rfl⟩
  unfold zdue
  rw [nI_mul, nI_add, iI_nat, iI_nat, iI_sub]
  congr 1
set_option maxRecDepth 20000 in
theorem m_allGrudges {σ : qSg} {C : zC} (h : zM σ 0 C) (hw : zW C) : qFI 4 275 [qr 139] σ (nI (zsum (C 0 1) (fun q => if zOpen C q then C 8 q else 0))) := by
  obtain ⟨wb, wq, ww1, ww2, wh1, wh2, wo, wm, wB, wQ⟩ := id hw
  refine qCI.of [some (qr 139), none, none] ok_275 (Nat.le_of_ble_eq_true rfl) rfl ?_
  refine qV.go 30 [4] ok_275 ?_
  simp only [qW_nop, qW_iconst, qW_iloadn, qW_aloadn, qW_istoren, qW_iinc, qW_iadd, qW_ifeq, qW_icge, qW_goto, qW_getf, qW_iald, qW_cv2_0, qW_cv3_0, qW_iret0, Nat.reduceAdd, Nat.reduceMul, Nat.reduceBEq, Nat.reduceEqDiff, Nat.reduceLT, Nat.reduceLeDiff, Nat.zero_le, nI_add, nI_mul, nI_cl, qin_eq, qofI, qlg_0, qlg_s, qls_i0, qls_r0, qls_l0, qls_1, qls_2, qkl_i, qkl_r, qkl_l, qkl_n, qIsI_i, qIsL_l, qIsR_r, qint_i, qil_i, qil_r, qil_l, qf4_0, qf4_1, qf4_2, qf4_3, qf2_0, qf2_1, qcs_n, qcs_i, qcs_r, qcs_l, qst_n, qst_c, qJ_0, qJ_st, qJ_go, qfl_I, qfl_Z, qfl_L, qfl_R, qrI_i, qrL_l, qrV_v, qRcv_0, qRcv_s, eq_self, true_and, and_true, true_or, or_true, false_and, and_false, false_or, or_false, ite_true, if_true, if_false, Bool.true_or, Bool.false_or, Bool.or_false, beq_self_eq_true, Bool.false_eq_true, bX12_allGrudges_0, bX12_allGrudges_4, bX12_allGrudges_32, bX12_allGrudges_33, bX12_allGrudges_41, kX12_allGrudges_0, kX12_allGrudges_4, kX12_allGrudges_32, kX12_allGrudges_33, kX12_allGrudges_41, qK_139, qR_139_0, qK_140, qR_139_1, qK_141, qR_139_5, qK_142, qR_139_6, qK_143, qR_139_7, qK_144, qR_139_8, qK_145, qR_139_9, qK_146, qR_139_21, qK_147, qR_139_25, qK_148, qR_139_30, qK_149, qR_139_31, qK_150, qR_139_33, qK_151, qR_139_34, qK_152, qR_139_35, qK_153, qR_139_36, qK_154, qR_139_39, qK_155, qR_139_40, qK_156, qR_139_41, qK_157]
  refine qdown (n := C 0 1) (P := fun q => qV 275 4 _ 4 [some (qr 139), some (qi (nI (zsum q (fun q => if zOpen C q then C 8 q else 0)))), some (qi (nI q))] [] σ) (fun q hq ih => ?_) 0 (Nat.zero_le _)
  refine qV.go 30 [4] ok_275 ?_
  simp only [qW_nop, qW_iconst, qW_iloadn, qW_aloadn, qW_istoren, qW_iinc, qW_iadd, qW_ifeq, qW_icge, qW_goto, qW_getf, qW_iald, qW_cv2_0, qW_cv3_0, qW_iret0, Nat.reduceAdd, Nat.reduceMul, Nat.reduceBEq, Nat.reduceEqDiff, Nat.reduceLT, Nat.reduceLeDiff, Nat.zero_le, nI_add, nI_mul, nI_cl, qin_eq, qofI, qlg_0, qlg_s, qls_i0, qls_r0, qls_l0, qls_1, qls_2, qkl_i, qkl_r, qkl_l, qkl_n, qIsI_i, qIsL_l, qIsR_r, qint_i, qil_i, qil_r, qil_l, qf4_0, qf4_1, qf4_2, qf4_3, qf2_0, qf2_1, qcs_n, qcs_i, qcs_r, qcs_l, qst_n, qst_c, qJ_0, qJ_st, qJ_go, qfl_I, qfl_Z, qfl_L, qfl_R, qrI_i, qrL_l, qrV_v, qRcv_0, qRcv_s, eq_self, true_and, and_true, true_or, or_true, false_and, and_false, false_or, or_false, ite_true, if_true, if_false, Bool.true_or, Bool.false_or, Bool.or_false, beq_self_eq_true, Bool.false_eq_true, bX12_allGrudges_0, bX12_allGrudges_4, bX12_allGrudges_32, bX12_allGrudges_33, bX12_allGrudges_41, kX12_allGrudges_0, kX12_allGrudges_4, kX12_allGrudges_32, kX12_allGrudges_33, kX12_allGrudges_41, qK_139, qR_139_0, qK_140, qR_139_1, qK_141, qR_139_5, qK_142, qR_139_6, qK_143, qR_139_7, qK_144, qR_139_8, qK_145, qR_139_9, qK_146, qR_139_21, qK_147, qR_139_25, qK_148, qR_139_30, qK_149, qR_139_31, qK_150, qR_139_33, qK_151, qR_139_34, qK_152, qR_139_35, qK_153, qR_139_36, qK_154, qR_139_39, qK_155, qR_139_40, qK_156, qR_139_41, qK_157]
  rw [zM_s h 1 (by decide)]
  simp (disch := omega) only [nI_leI, nI_ltI, nI_eq, nI_cl, qin_eq, nI_add, nI_mul, qb_z, qb_t, qb_f, nI_ne0', Nat.reduceAdd, Bool.false_eq_true, if_false, if_true, true_and, and_true, Nat.reduceEqDiff, not_true_eq_false, not_false_eq_true, false_implies, true_implies, ite_true, ite_false]
  refine ⟨fun h1 => ?_, fun h1 => ?_⟩
  · rw [show q = C 0 1 by omega]
  · have hq1 : q < C 0 1 := by omega
    refine qBI.fn (m_isOpen h hw hq1) (by decide) ?_
    simp (disch := omega) only [nI_leI, nI_ltI, nI_eq, nI_cl, qin_eq, nI_add, nI_mul, qb_z, qb_t, qb_f, nI_ne0', Nat.reduceAdd, Bool.false_eq_true, if_false, if_true, true_and, and_true, Nat.reduceEqDiff, not_true_eq_false, not_false_eq_true, false_implies, true_implies, ite_true, ite_false]
    refine ⟨fun h2 => ?_, fun h2 => ?_⟩
    · have e : zsum (q + 1) (fun q => if zOpen C q then C 8 q else 0) = zsum q (fun q => if zOpen C q then C 8 q else 0) + 0 := by simp [zsum, h2]
      rw [← e]; exact ih hq1
    · refine qBI.fn (m_quarrelOf σ (by omega)) (by decide) ?_
      have e : zsum (q + 1) (fun q => if zOpen C q then C 8 q else 0) = zsum q (fun q => if zOpen C q then C 8 q else 0) + C 8 q := by
        have h3 : zOpen C q = true := by simpa using h2
        simp [zsum, h3]
      rw [zMq2 h hq1]
      simp (disch := omega) only [nI_leI, nI_ltI, nI_eq, nI_cl, qin_eq, nI_add, nI_mul, qb_z, qb_t, qb_f, nI_ne0', Nat.reduceAdd, Bool.false_eq_true, if_false, if_true, true_and, and_true, Nat.reduceEqDiff, not_true_eq_false, not_false_eq_true, false_implies, true_implies, ite_true, ite_false]
      rw [← e]; exact ih hq1
set_option maxRecDepth 20000 in
theorem m_everybody {σ : qSg} {C : zC} (h : zM σ 0 C) (hw : zW C) : qFI 1 302 [qr 139] σ (nI (2 ^ C 0 0 - 1)) := by
  obtain ⟨wb, wq, ww1, ww2, wh1, wh2, wo, wm, wB, wQ⟩ := id hw
  refine qCI.of [some (qr 139)] ok_302 (Nat.le_of_ble_eq_true rfl) rfl ?_
  refine qV.go 30 [9999] ok_302 ?_
  simp only [qW_nop, qW_iconst, qW_aloadn, qW_isub, qW_ishl, qW_getf, qW_iald, qW_iret0, Nat.reduceAdd, Nat.reduceMul, Nat.reduceBEq, Nat.reduceEqDiff, Nat.reduceLT, Nat.reduceLeDiff, Nat.zero_le, nI_add, nI_mul, nI_cl, qin_eq, qofI, qlg_0, qlg_s, qls_i0, qls_r0, qls_l0, qls_1, qls_2, qkl_i, qkl_r, qkl_l, qkl_n, qIsI_i, qIsL_l, qIsR_r, qint_i, qil_i, qil_r, qil_l, qf4_0, qf4_1, qf4_2, qf4_3, qf2_0, qf2_1, qcs_n, qcs_i, qcs_r, qcs_l, qst_n, qst_c, qJ_0, qJ_st, qJ_go, qfl_I, qfl_Z, qfl_L, qfl_R, qrI_i, qrL_l, qrV_v, qRcv_0, qRcv_s, eq_self, true_and, and_true, true_or, or_true, false_and, and_false, false_or, or_false, ite_true, if_true, if_false, Bool.true_or, Bool.false_or, Bool.or_false, beq_self_eq_true, Bool.false_eq_true, bX12_everybody_0, kX12_everybody_0, qK_139, qR_139_0, qK_140, qR_139_1, qK_141, qR_139_5, qK_142, qR_139_6, qK_143, qR_139_7, qK_144, qR_139_8, qK_145, qR_139_9, qK_146, qR_139_21, qK_147, qR_139_25, qK_148, qR_139_30, qK_149, qR_139_31, qK_150, qR_139_33, qK_151, qR_139_34, qK_152, qR_139_35, qK_153, qR_139_36, qK_154, qR_139_39, qK_155, qR_139_40, qK_156, qR_139_41, qK_157]
  rw [zM_s h 0 (by decide), qshl1 (by omega), nI_sub (Nat.one_le_two_pow)]
