/-! the reference's calls: what is told, what is done -/
theorem z0i : (0 : Int32).toInt = 0 := rfl
set_option maxRecDepth 20000 in
theorem M_told {σ : qSg} {A : zA} (hA : zMA σ A) (hW : zAW A) (w : Int32) : qCI 6 276 [qr 139, qi w] σ (zCall σ (yTold A w)) := by
  have hM := hA.m
  have hw := hW.w
  refine qCI.of [some (qr 139), some (qi w)] ok_276 (Nat.le_of_ble_eq_true rfl) rfl ?_
  refine qV.go 30 [10, 44, 53, 62, 71] ok_276 ?_
  simp only [qW_nop, qW_iconst, qW_bipush, qW_iloadn, qW_aloadn, qW_iflt, qW_icle, qW_tsw, qW_getf, qW_iald, qW_cv1_0, qW_cv2_0, qW_iret0, Nat.reduceAdd, Nat.reduceMul, Nat.reduceBEq, Nat.reduceEqDiff, Nat.reduceLT, Nat.reduceLeDiff, Nat.zero_le, nI_add, nI_mul, nI_cl, qin_eq, qofI, qlg_0, qlg_s, qls_i0, qls_r0, qls_l0, qls_1, qls_2, qkl_i, qkl_r, qkl_l, qkl_n, qIsI_i, qIsL_l, qIsR_r, qint_i, qil_i, qil_r, qil_l, qf4_0, qf4_1, qf4_2, qf4_3, qf2_0, qf2_1, qcs_n, qcs_i, qcs_r, qcs_l, qst_n, qst_c, qJ_0, qJ_st, qJ_go, qfl_I, qfl_Z, qfl_L, qfl_R, qrI_i, qrL_l, qrV_v, qRcv_0, qRcv_s, eq_self, true_and, and_true, true_or, or_true, false_and, and_false, false_or, or_false, ite_true, if_true, if_false, Bool.true_or, Bool.false_or, Bool.or_false, beq_self_eq_true, Bool.false_eq_true, bX12_told_0, bX12_told_10, bX12_told_16, bX12_told_44, bX12_told_53, bX12_told_62, bX12_told_71, kX12_told_0, kX12_told_10, kX12_told_16, kX12_told_44, kX12_told_53, kX12_told_62, kX12_told_71, qK_139, qR_139_0, qK_140, qR_139_1, qK_141, qR_139_5, qK_142, qR_139_6, qK_143, qR_139_7, qK_144, qR_139_8, qK_145, qR_139_9, qK_146, qR_139_21, qK_147, qR_139_25, qK_148, qR_139_30, qK_149, qR_139_31, qK_150, qR_139_33, qK_151, qR_139_34, qK_152, qR_139_35, qK_153, qR_139_36, qK_154, qR_139_39, qK_155, qR_139_40, qK_156, qR_139_41, qK_157]
  have no : zih w 0 8 = false → qV 276 6 (.inl (zCall σ (yTold A w))) 10 [some (qr 139), some (qi w)] [] σ := by
    intro hz
    refine qV.go 30 [9999] ok_276 ?_
    simp only [qW_nop, qW_iconst, qW_bipush, qW_iloadn, qW_aloadn, qW_iflt, qW_icle, qW_tsw, qW_getf, qW_iald, qW_cv1_0, qW_cv2_0, qW_iret0, Nat.reduceAdd, Nat.reduceMul, Nat.reduceBEq, Nat.reduceEqDiff, Nat.reduceLT, Nat.reduceLeDiff, Nat.zero_le, nI_add, nI_mul, nI_cl, qin_eq, qofI, qlg_0, qlg_s, qls_i0, qls_r0, qls_l0, qls_1, qls_2, qkl_i, qkl_r, qkl_l, qkl_n, qIsI_i, qIsL_l, qIsR_r, qint_i, qil_i, qil_r, qil_l, qf4_0, qf4_1, qf4_2, qf4_3, qf2_0, qf2_1, qcs_n, qcs_i, qcs_r, qcs_l, qst_n, qst_c, qJ_0, qJ_st, qJ_go, qfl_I, qfl_Z, qfl_L, qfl_R, qrI_i, qrL_l, qrV_v, qRcv_0, qRcv_s, eq_self, true_and, and_true, true_or, or_true, false_and, and_false, false_or, or_false, ite_true, if_true, if_false, Bool.true_or, Bool.false_or, Bool.or_false, beq_self_eq_true, Bool.false_eq_true, bX12_told_0, bX12_told_10, bX12_told_16, bX12_told_44, bX12_told_53, bX12_told_62, bX12_told_71, kX12_told_0, kX12_told_10, kX12_told_16, kX12_told_44, kX12_told_53, kX12_told_62, kX12_told_71, qK_139, qR_139_0, qK_140, qR_139_1, qK_141, qR_139_5, qK_142, qR_139_6, qK_143, qR_139_7, qK_144, qR_139_8, qK_145, qR_139_9, qK_146, qR_139_21, qK_147, qR_139_25, qK_148, qR_139_30, qK_149, qR_139_31, qK_150, qR_139_33, qK_151, qR_139_34, qK_152, qR_139_35, qK_153, qR_139_36, qK_154, qR_139_39, qK_155, qR_139_40, qK_156, qR_139_41, qK_157]
    exact e_no hA hW zRef.rf (by decide) (by unfold yTold; rw [if_pos hz]; rfl)
  simp only [z0i, qlt, qle, nI_t (show 8 < 2147483648 by decide)]
  refine ⟨fun g => no (by simp [zih]; omega), fun g => ⟨fun g2 => ?_, fun g2 => no (by simp [zih]; omega)⟩⟩
  have hz : zih w 0 8 = true := by simp [zih]; omega
  obtain ⟨k, -, hk, rfl⟩ := zih_nI hz
  have eY : yTold A (nI k) = yOk A (nI (ztellv (aC A) k)) := by
    unfold yTold
    rw [if_neg (by rw [hz]; decide), nI_tn (by omega)]
  rw [eY, qsw]
  simp only [qsl, nI_t (show k < 2147483648 by omega)]
  refine ⟨fun h => ?_, fun h => ?_, fun h => ?_, fun h => ?_, trivial⟩
  · rw [qJ_st _ _ _ _ _ (by rfl)]
    have e : ztellv (aC A) k = aC A 0 k := by unfold ztellv; rw [if_neg (by omega), if_neg (by omega), if_neg (by omega)]
    refine qV.go 30 [9999] ok_276 ?_
    simp only [qW_nop, qW_iconst, qW_bipush, qW_iloadn, qW_aloadn, qW_iflt, qW_icle, qW_tsw, qW_getf, qW_iald, qW_cv1_0, qW_cv2_0, qW_iret0, Nat.reduceAdd, Nat.reduceMul, Nat.reduceBEq, Nat.reduceEqDiff, Nat.reduceLT, Nat.reduceLeDiff, Nat.zero_le, nI_add, nI_mul, nI_cl, qin_eq, qofI, qlg_0, qlg_s, qls_i0, qls_r0, qls_l0, qls_1, qls_2, qkl_i, qkl_r, qkl_l, qkl_n, qIsI_i, qIsL_l, qIsR_r, qint_i, qil_i, qil_r, qil_l, qf4_0, qf4_1, qf4_2, qf4_3, qf2_0, qf2_1, qcs_n, qcs_i, qcs_r, qcs_l, qst_n, qst_c, qJ_0, qJ_st, qJ_go, qfl_I, qfl_Z, qfl_L, qfl_R, qrI_i, qrL_l, qrV_v, qRcv_0, qRcv_s, eq_self, true_and, and_true, true_or, or_true, false_and, and_false, false_or, or_false, ite_true, if_true, if_false, Bool.true_or, Bool.false_or, Bool.or_false, beq_self_eq_true, Bool.false_eq_true, bX12_told_0, bX12_told_10, bX12_told_16, bX12_told_44, bX12_told_53, bX12_told_62, bX12_told_71, kX12_told_0, kX12_told_10, kX12_told_16, kX12_told_44, kX12_told_53, kX12_told_62, kX12_told_71, qK_139, qR_139_0, qK_140, qR_139_1, qK_141, qR_139_5, qK_142, qR_139_6, qK_143, qR_139_7, qK_144, qR_139_8, qK_145, qR_139_9, qK_146, qR_139_21, qK_147, qR_139_25, qK_148, qR_139_30, qK_149, qR_139_31, qK_150, qR_139_33, qK_151, qR_139_34, qK_152, qR_139_35, qK_153, qR_139_36, qK_154, qR_139_39, qK_155, qR_139_40, qK_156, qR_139_41, qK_157]
    simp (disch := omega) only [nI_leI, nI_ltI, nI_eq, nI_cl, qin_eq, nI_add, nI_mul, qb_z, qb_t, qb_f, nI_ne0', Nat.reduceAdd, Bool.false_eq_true, if_false, if_true, true_and, and_true, Nat.reduceEqDiff, not_true_eq_false, not_false_eq_true, false_implies, true_implies, ite_true, ite_false]
    rw [zM_s hM k (by omega), e]
    exact e_ok hA hW zRef.rf (by decide) rfl
  · have : k = 6 := by omega
    subst this
    rw [qJ_st _ _ _ _ _ (by rfl)]
    refine qV.go 30 [9999] ok_276 ?_
    simp only [qW_nop, qW_iconst, qW_bipush, qW_iloadn, qW_aloadn, qW_iflt, qW_icle, qW_tsw, qW_getf, qW_iald, qW_cv1_0, qW_cv2_0, qW_iret0, Nat.reduceAdd, Nat.reduceMul, Nat.reduceBEq, Nat.reduceEqDiff, Nat.reduceLT, Nat.reduceLeDiff, Nat.zero_le, nI_add, nI_mul, nI_cl, qin_eq, qofI, qlg_0, qlg_s, qls_i0, qls_r0, qls_l0, qls_1, qls_2, qkl_i, qkl_r, qkl_l, qkl_n, qIsI_i, qIsL_l, qIsR_r, qint_i, qil_i, qil_r, qil_l, qf4_0, qf4_1, qf4_2, qf4_3, qf2_0, qf2_1, qcs_n, qcs_i, qcs_r, qcs_l, qst_n, qst_c, qJ_0, qJ_st, qJ_go, qfl_I, qfl_Z, qfl_L, qfl_R, qrI_i, qrL_l, qrV_v, qRcv_0, qRcv_s, eq_self, true_and, and_true, true_or, or_true, false_and, and_false, false_or, or_false, ite_true, if_true, if_false, Bool.true_or, Bool.false_or, Bool.or_false, beq_self_eq_true, Bool.false_eq_true, bX12_told_0, bX12_told_10, bX12_told_16, bX12_told_44, bX12_told_53, bX12_told_62, bX12_told_71, kX12_told_0, kX12_told_10, kX12_told_16, kX12_told_44, kX12_told_53, kX12_told_62, kX12_told_71, qK_139, qR_139_0, qK_140, qR_139_1, qK_141, qR_139_5, qK_142, qR_139_6, qK_143, qR_139_7, qK_144, qR_139_8, qK_145, qR_139_9, qK_146, qR_139_21, qK_147, qR_139_25, qK_148, qR_139_30, qK_149, qR_139_31, qK_150, qR_139_33, qK_151, qR_139_34, qK_152, qR_139_35, qK_153, qR_139_36, qK_154, qR_139_39, qK_155, qR_139_40, qK_156, qR_139_41, qK_157]
    exact qBI.fn (m_areUp hM hw) (by decide) (e_ok hA hW zRef.rf (by decide) rfl)
  · have : k = 7 := by omega
    subst this
    rw [qJ_st _ _ _ _ _ (by rfl)]
    refine qV.go 30 [9999] ok_276 ?_
    simp only [qW_nop, qW_iconst, qW_bipush, qW_iloadn, qW_aloadn, qW_iflt, qW_icle, qW_tsw, qW_getf, qW_iald, qW_cv1_0, qW_cv2_0, qW_iret0, Nat.reduceAdd, Nat.reduceMul, Nat.reduceBEq, Nat.reduceEqDiff, Nat.reduceLT, Nat.reduceLeDiff, Nat.zero_le, nI_add, nI_mul, nI_cl, qin_eq, qofI, qlg_0, qlg_s, qls_i0, qls_r0, qls_l0, qls_1, qls_2, qkl_i, qkl_r, qkl_l, qkl_n, qIsI_i, qIsL_l, qIsR_r, qint_i, qil_i, qil_r, qil_l, qf4_0, qf4_1, qf4_2, qf4_3, qf2_0, qf2_1, qcs_n, qcs_i, qcs_r, qcs_l, qst_n, qst_c, qJ_0, qJ_st, qJ_go, qfl_I, qfl_Z, qfl_L, qfl_R, qrI_i, qrL_l, qrV_v, qRcv_0, qRcv_s, eq_self, true_and, and_true, true_or, or_true, false_and, and_false, false_or, or_false, ite_true, if_true, if_false, Bool.true_or, Bool.false_or, Bool.or_false, beq_self_eq_true, Bool.false_eq_true, bX12_told_0, bX12_told_10, bX12_told_16, bX12_told_44, bX12_told_53, bX12_told_62, bX12_told_71, kX12_told_0, kX12_told_10, kX12_told_16, kX12_told_44, kX12_told_53, kX12_told_62, kX12_told_71, qK_139, qR_139_0, qK_140, qR_139_1, qK_141, qR_139_5, qK_142, qR_139_6, qK_143, qR_139_7, qK_144, qR_139_8, qK_145, qR_139_9, qK_146, qR_139_21, qK_147, qR_139_25, qK_148, qR_139_30, qK_149, qR_139_31, qK_150, qR_139_33, qK_151, qR_139_34, qK_152, qR_139_35, qK_153, qR_139_36, qK_154, qR_139_39, qK_155, qR_139_40, qK_156, qR_139_41, qK_157]
    exact qBI.fn (m_openOnes hM hw) (by decide) (e_ok hA hW zRef.rf (by decide) rfl)
  · have : k = 8 := by omega
    subst this
    rw [qJ_st _ _ _ _ _ (by rfl)]
    refine qV.go 30 [9999] ok_276 ?_
    simp only [qW_nop, qW_iconst, qW_bipush, qW_iloadn, qW_aloadn, qW_iflt, qW_icle, qW_tsw, qW_getf, qW_iald, qW_cv1_0, qW_cv2_0, qW_iret0, Nat.reduceAdd, Nat.reduceMul, Nat.reduceBEq, Nat.reduceEqDiff, Nat.reduceLT, Nat.reduceLeDiff, Nat.zero_le, nI_add, nI_mul, nI_cl, qin_eq, qofI, qlg_0, qlg_s, qls_i0, qls_r0, qls_l0, qls_1, qls_2, qkl_i, qkl_r, qkl_l, qkl_n, qIsI_i, qIsL_l, qIsR_r, qint_i, qil_i, qil_r, qil_l, qf4_0, qf4_1, qf4_2, qf4_3, qf2_0, qf2_1, qcs_n, qcs_i, qcs_r, qcs_l, qst_n, qst_c, qJ_0, qJ_st, qJ_go, qfl_I, qfl_Z, qfl_L, qfl_R, qrI_i, qrL_l, qrV_v, qRcv_0, qRcv_s, eq_self, true_and, and_true, true_or, or_true, false_and, and_false, false_or, or_false, ite_true, if_true, if_false, Bool.true_or, Bool.false_or, Bool.or_false, beq_self_eq_true, Bool.false_eq_true, bX12_told_0, bX12_told_10, bX12_told_16, bX12_told_44, bX12_told_53, bX12_told_62, bX12_told_71, kX12_told_0, kX12_told_10, kX12_told_16, kX12_told_44, kX12_told_53, kX12_told_62, kX12_told_71, qK_139, qR_139_0, qK_140, qR_139_1, qK_141, qR_139_5, qK_142, qR_139_6, qK_143, qR_139_7, qK_144, qR_139_8, qK_145, qR_139_9, qK_146, qR_139_21, qK_147, qR_139_25, qK_148, qR_139_30, qK_149, qR_139_31, qK_150, qR_139_33, qK_151, qR_139_34, qK_152, qR_139_35, qK_153, qR_139_36, qK_154, qR_139_39, qK_155, qR_139_40, qK_156, qR_139_41, qK_157]
    exact qBI.fn (m_allGrudges hM hw) (by decide) (e_ok hA hW zRef.rf (by decide) rfl)
set_option maxRecDepth 20000 in
theorem M_boy {σ : qSg} {A : zA} (hA : zMA σ A) (hW : zAW A) (b w : Int32) : qCI 5 277 [qr 139, qi b, qi w] σ (zCall σ (yBoy A b w)) := by
  have hM := hA.m
  have hw := hW.w
  have wb := hw.1
  refine qCI.of [some (qr 139), some (qi b), some (qi w)] ok_277 (Nat.le_of_ble_eq_true rfl) rfl ?_
  refine qV.go 30 [19, 52, 70, 83, 94] ok_277 ?_
  simp only [qW_nop, qW_iconst, qW_bipush, qW_iloadn, qW_aloadn, qW_i2l, qW_ifeq, qW_ifne, qW_iflt, qW_icle, qW_goto, qW_tsw, qW_cs1_0, qW_cv2_0, qW_cv3_0, qW_iret0, Nat.reduceAdd, Nat.reduceMul, Nat.reduceBEq, Nat.reduceEqDiff, Nat.reduceLT, Nat.reduceLeDiff, Nat.zero_le, nI_add, nI_mul, nI_cl, qin_eq, qofI, qlg_0, qlg_s, qls_i0, qls_r0, qls_l0, qls_1, qls_2, qkl_i, qkl_r, qkl_l, qkl_n, qIsI_i, qIsL_l, qIsR_r, qint_i, qil_i, qil_r, qil_l, qf4_0, qf4_1, qf4_2, qf4_3, qf2_0, qf2_1, qcs_n, qcs_i, qcs_r, qcs_l, qst_n, qst_c, qJ_0, qJ_st, qJ_go, qfl_I, qfl_Z, qfl_L, qfl_R, qrI_i, qrL_l, qrV_v, qRcv_0, qRcv_s, eq_self, true_and, and_true, true_or, or_true, false_and, and_false, false_or, or_false, ite_true, if_true, if_false, Bool.true_or, Bool.false_or, Bool.or_false, beq_self_eq_true, Bool.false_eq_true, bX12_boy_0, bX12_boy_19, bX12_boy_25, bX12_boy_52, bX12_boy_65, bX12_boy_66, bX12_boy_70, bX12_boy_83, bX12_boy_94, kX12_boy_0, kX12_boy_19, kX12_boy_25, kX12_boy_52, kX12_boy_65, kX12_boy_66, kX12_boy_70, kX12_boy_83, kX12_boy_94, qK_139, qR_139_0, qK_140, qR_139_1, qK_141, qR_139_5, qK_142, qR_139_6, qK_143, qR_139_7, qK_144, qR_139_8, qK_145, qR_139_9, qK_146, qR_139_21, qK_147, qR_139_25, qK_148, qR_139_30, qK_149, qR_139_31, qK_150, qR_139_33, qK_151, qR_139_34, qK_152, qR_139_35, qK_153, qR_139_36, qK_154, qR_139_39, qK_155, qR_139_40, qK_156, qR_139_41, qK_157]
  refine qBI.fn (m_isBoy hM hw _) (by decide) ?_
  rw [zrl_i]
  simp (disch := omega) only [nI_leI, nI_ltI, nI_eq, nI_cl, qin_eq, nI_add, nI_mul, qb_z, qb_t, qb_f, nI_ne0', Nat.reduceAdd, Bool.false_eq_true, if_false, if_true, true_and, and_true, Nat.reduceEqDiff, not_true_eq_false, not_false_eq_true, false_implies, true_implies, ite_true, ite_false]
  have no : (zrg b (aC A 0 0) && zih w 0 6) = false → qV 277 5 (.inl (zCall σ (yBoy A b w))) 19 [some (qr 139), some (qi b), some (qi w)] [] σ := by
    intro hz
    refine qV.go 30 [9999] ok_277 ?_
    simp only [qW_nop, qW_iconst, qW_bipush, qW_iloadn, qW_aloadn, qW_i2l, qW_ifeq, qW_ifne, qW_iflt, qW_icle, qW_goto, qW_tsw, qW_cs1_0, qW_cv2_0, qW_cv3_0, qW_iret0, Nat.reduceAdd, Nat.reduceMul, Nat.reduceBEq, Nat.reduceEqDiff, Nat.reduceLT, Nat.reduceLeDiff, Nat.zero_le, nI_add, nI_mul, nI_cl, qin_eq, qofI, qlg_0, qlg_s, qls_i0, qls_r0, qls_l0, qls_1, qls_2, qkl_i, qkl_r, qkl_l, qkl_n, qIsI_i, qIsL_l, qIsR_r, qint_i, qil_i, qil_r, qil_l, qf4_0, qf4_1, qf4_2, qf4_3, qf2_0, qf2_1, qcs_n, qcs_i, qcs_r, qcs_l, qst_n, qst_c, qJ_0, qJ_st, qJ_go, qfl_I, qfl_Z, qfl_L, qfl_R, qrI_i, qrL_l, qrV_v, qRcv_0, qRcv_s, eq_self, true_and, and_true, true_or, or_true, false_and, and_false, false_or, or_false, ite_true, if_true, if_false, Bool.true_or, Bool.false_or, Bool.or_false, beq_self_eq_true, Bool.false_eq_true, bX12_boy_0, bX12_boy_19, bX12_boy_25, bX12_boy_52, bX12_boy_65, bX12_boy_66, bX12_boy_70, bX12_boy_83, bX12_boy_94, kX12_boy_0, kX12_boy_19, kX12_boy_25, kX12_boy_52, kX12_boy_65, kX12_boy_66, kX12_boy_70, kX12_boy_83, kX12_boy_94, qK_139, qR_139_0, qK_140, qR_139_1, qK_141, qR_139_5, qK_142, qR_139_6, qK_143, qR_139_7, qK_144, qR_139_8, qK_145, qR_139_9, qK_146, qR_139_21, qK_147, qR_139_25, qK_148, qR_139_30, qK_149, qR_139_31, qK_150, qR_139_33, qK_151, qR_139_34, qK_152, qR_139_35, qK_153, qR_139_36, qK_154, qR_139_39, qK_155, qR_139_40, qK_156, qR_139_41, qK_157]
    exact e_no hA hW zRef.rf (by decide) (by unfold yBoy; rw [if_pos hz]; rfl)
  simp only [z0i, qlt, qle, nI_t (show 6 < 2147483648 by decide)]
  refine ⟨fun g => no (by rw [g]; rfl), fun g => ⟨fun g1 => no (by simp [zih]; omega), fun g1 => ⟨fun g2 => ?_, fun g2 => no (by simp [zih]; omega)⟩⟩⟩
  have hz : zih w 0 6 = true := by simp [zih]; omega
  have hb : zrg b (aC A 0 0) = true := by simpa using g
  obtain ⟨k, -, hk, rfl⟩ := zih_nI hz
  obtain ⟨i, hi, rfl⟩ := zrg_nI hb
  have eY : yBoy A (nI i) (nI k) = yOk A (nI (zboyv (aC A) i k)) := by
    unfold yBoy
    rw [if_neg (by rw [hb, hz]; decide), nI_tn (by omega), nI_tn (by omega)]
  rw [eY, qsw]
  simp only [qsl, nI_t (show k < 2147483648 by omega)]
  have hof := zof_lt hw i
  refine ⟨fun h => ?_, fun h => ?_, fun h => ?_, fun h => ?_, trivial⟩
  · rw [qJ_st _ _ _ _ _ (by rfl)]
    have e : zboyv (aC A) i k = aC A (1 + k) i := by unfold zboyv; rw [if_neg (by omega), if_neg (by omega), if_neg (by omega)]
    refine qV.go 30 [9999] ok_277 ?_
    simp only [qW_nop, qW_iconst, qW_bipush, qW_iloadn, qW_aloadn, qW_i2l, qW_ifeq, qW_ifne, qW_iflt, qW_icle, qW_goto, qW_tsw, qW_cs1_0, qW_cv2_0, qW_cv3_0, qW_iret0, Nat.reduceAdd, Nat.reduceMul, Nat.reduceBEq, Nat.reduceEqDiff, Nat.reduceLT, Nat.reduceLeDiff, Nat.zero_le, nI_add, nI_mul, nI_cl, qin_eq, qofI, qlg_0, qlg_s, qls_i0, qls_r0, qls_l0, qls_1, qls_2, qkl_i, qkl_r, qkl_l, qkl_n, qIsI_i, qIsL_l, qIsR_r, qint_i, qil_i, qil_r, qil_l, qf4_0, qf4_1, qf4_2, qf4_3, qf2_0, qf2_1, qcs_n, qcs_i, qcs_r, qcs_l, qst_n, qst_c, qJ_0, qJ_st, qJ_go, qfl_I, qfl_Z, qfl_L, qfl_R, qrI_i, qrL_l, qrV_v, qRcv_0, qRcv_s, eq_self, true_and, and_true, true_or, or_true, false_and, and_false, false_or, or_false, ite_true, if_true, if_false, Bool.true_or, Bool.false_or, Bool.or_false, beq_self_eq_true, Bool.false_eq_true, bX12_boy_0, bX12_boy_19, bX12_boy_25, bX12_boy_52, bX12_boy_65, bX12_boy_66, bX12_boy_70, bX12_boy_83, bX12_boy_94, kX12_boy_0, kX12_boy_19, kX12_boy_25, kX12_boy_52, kX12_boy_65, kX12_boy_66, kX12_boy_70, kX12_boy_83, kX12_boy_94, qK_139, qR_139_0, qK_140, qR_139_1, qK_141, qR_139_5, qK_142, qR_139_6, qK_143, qR_139_7, qK_144, qR_139_8, qK_145, qR_139_9, qK_146, qR_139_21, qK_147, qR_139_25, qK_148, qR_139_30, qK_149, qR_139_31, qK_150, qR_139_33, qK_151, qR_139_34, qK_152, qR_139_35, qK_153, qR_139_36, qK_154, qR_139_39, qK_155, qR_139_40, qK_156, qR_139_41, qK_157]
    refine qBI.fn (m_boyOf σ (by omega)) (by decide) ?_
    rw [zM_b hM hi (by omega), e]
    exact e_ok hA hW zRef.rf (by decide) rfl
  · have : k = 4 := by omega
    subst this
    rw [qJ_st _ _ _ _ _ (by rfl)]
    refine qV.go 30 [9999] ok_277 ?_
    simp only [qW_nop, qW_iconst, qW_bipush, qW_iloadn, qW_aloadn, qW_i2l, qW_ifeq, qW_ifne, qW_iflt, qW_icle, qW_goto, qW_tsw, qW_cs1_0, qW_cv2_0, qW_cv3_0, qW_iret0, Nat.reduceAdd, Nat.reduceMul, Nat.reduceBEq, Nat.reduceEqDiff, Nat.reduceLT, Nat.reduceLeDiff, Nat.zero_le, nI_add, nI_mul, nI_cl, qin_eq, qofI, qlg_0, qlg_s, qls_i0, qls_r0, qls_l0, qls_1, qls_2, qkl_i, qkl_r, qkl_l, qkl_n, qIsI_i, qIsL_l, qIsR_r, qint_i, qil_i, qil_r, qil_l, qf4_0, qf4_1, qf4_2, qf4_3, qf2_0, qf2_1, qcs_n, qcs_i, qcs_r, qcs_l, qst_n, qst_c, qJ_0, qJ_st, qJ_go, qfl_I, qfl_Z, qfl_L, qfl_R, qrI_i, qrL_l, qrV_v, qRcv_0, qRcv_s, eq_self, true_and, and_true, true_or, or_true, false_and, and_false, false_or, or_false, ite_true, if_true, if_false, Bool.true_or, Bool.false_or, Bool.or_false, beq_self_eq_true, Bool.false_eq_true, bX12_boy_0, bX12_boy_19, bX12_boy_25, bX12_boy_52, bX12_boy_65, bX12_boy_66, bX12_boy_70, bX12_boy_83, bX12_boy_94, kX12_boy_0, kX12_boy_19, kX12_boy_25, kX12_boy_52, kX12_boy_65, kX12_boy_66, kX12_boy_70, kX12_boy_83, kX12_boy_94, qK_139, qR_139_0, qK_140, qR_139_1, qK_141, qR_139_5, qK_142, qR_139_6, qK_143, qR_139_7, qK_144, qR_139_8, qK_145, qR_139_9, qK_146, qR_139_21, qK_147, qR_139_25, qK_148, qR_139_30, qK_149, qR_139_31, qK_150, qR_139_33, qK_151, qR_139_34, qK_152, qR_139_35, qK_153, qR_139_36, qK_154, qR_139_39, qK_155, qR_139_40, qK_156, qR_139_41, qK_157]
    refine qBI.fn (m_openOf hM hw hi) (by decide) ?_
    simp (disch := omega) only [nI_leI, nI_ltI, nI_eq, nI_cl, qin_eq, nI_add, nI_mul, qb_z, qb_t, qb_f, nI_ne0', Nat.reduceAdd, Bool.false_eq_true, if_false, if_true, true_and, and_true, Nat.reduceEqDiff, not_true_eq_false, not_false_eq_true, false_implies, true_implies, ite_true, ite_false]
    have e : zboyv (aC A) i 4 = if zof (aC A) i = 0 then 1 else 0 := rfl
    rw [e]
    refine ⟨fun h => ?_, fun h => ?_⟩
    · rw [if_neg h]
      exact e_ok hA hW zRef.rf (by decide) rfl
    · rw [if_pos h]
      exact e_ok hA hW zRef.rf (by decide) rfl
  · have : k = 5 := by omega
    subst this
    rw [qJ_st _ _ _ _ _ (by rfl)]
    refine qV.go 30 [9999] ok_277 ?_
    simp only [qW_nop, qW_iconst, qW_bipush, qW_iloadn, qW_aloadn, qW_i2l, qW_ifeq, qW_ifne, qW_iflt, qW_icle, qW_goto, qW_tsw, qW_cs1_0, qW_cv2_0, qW_cv3_0, qW_iret0, Nat.reduceAdd, Nat.reduceMul, Nat.reduceBEq, Nat.reduceEqDiff, Nat.reduceLT, Nat.reduceLeDiff, Nat.zero_le, nI_add, nI_mul, nI_cl, qin_eq, qofI, qlg_0, qlg_s, qls_i0, qls_r0, qls_l0, qls_1, qls_2, qkl_i, qkl_r, qkl_l, qkl_n, qIsI_i, qIsL_l, qIsR_r, qint_i, qil_i, qil_r, qil_l, qf4_0, qf4_1, qf4_2, qf4_3, qf2_0, qf2_1, qcs_n, qcs_i, qcs_r, qcs_l, qst_n, qst_c, qJ_0, qJ_st, qJ_go, qfl_I, qfl_Z, qfl_L, qfl_R, qrI_i, qrL_l, qrV_v, qRcv_0, qRcv_s, eq_self, true_and, and_true, true_or, or_true, false_and, and_false, false_or, or_false, ite_true, if_true, if_false, Bool.true_or, Bool.false_or, Bool.or_false, beq_self_eq_true, Bool.false_eq_true, bX12_boy_0, bX12_boy_19, bX12_boy_25, bX12_boy_52, bX12_boy_65, bX12_boy_66, bX12_boy_70, bX12_boy_83, bX12_boy_94, kX12_boy_0, kX12_boy_19, kX12_boy_25, kX12_boy_52, kX12_boy_65, kX12_boy_66, kX12_boy_70, kX12_boy_83, kX12_boy_94, qK_139, qR_139_0, qK_140, qR_139_1, qK_141, qR_139_5, qK_142, qR_139_6, qK_143, qR_139_7, qK_144, qR_139_8, qK_145, qR_139_9, qK_146, qR_139_21, qK_147, qR_139_25, qK_148, qR_139_30, qK_149, qR_139_31, qK_150, qR_139_33, qK_151, qR_139_34, qK_152, qR_139_35, qK_153, qR_139_36, qK_154, qR_139_39, qK_155, qR_139_40, qK_156, qR_139_41, qK_157]
    refine qBI.fn (m_openOf hM hw hi) (by decide) (qBI.fn (m_bits σ (by omega)) (by decide) ?_)
    exact e_ok hA hW zRef.rf (by decide) rfl
  · have : k = 6 := by omega
    subst this
    rw [qJ_st _ _ _ _ _ (by rfl)]
    refine qV.go 30 [9999] ok_277 ?_
    simp only [qW_nop, qW_iconst, qW_bipush, qW_iloadn, qW_aloadn, qW_i2l, qW_ifeq, qW_ifne, qW_iflt, qW_icle, qW_goto, qW_tsw, qW_cs1_0, qW_cv2_0, qW_cv3_0, qW_iret0, Nat.reduceAdd, Nat.reduceMul, Nat.reduceBEq, Nat.reduceEqDiff, Nat.reduceLT, Nat.reduceLeDiff, Nat.zero_le, nI_add, nI_mul, nI_cl, qin_eq, qofI, qlg_0, qlg_s, qls_i0, qls_r0, qls_l0, qls_1, qls_2, qkl_i, qkl_r, qkl_l, qkl_n, qIsI_i, qIsL_l, qIsR_r, qint_i, qil_i, qil_r, qil_l, qf4_0, qf4_1, qf4_2, qf4_3, qf2_0, qf2_1, qcs_n, qcs_i, qcs_r, qcs_l, qst_n, qst_c, qJ_0, qJ_st, qJ_go, qfl_I, qfl_Z, qfl_L, qfl_R, qrI_i, qrL_l, qrV_v, qRcv_0, qRcv_s, eq_self, true_and, and_true, true_or, or_true, false_and, and_false, false_or, or_false, ite_true, if_true, if_false, Bool.true_or, Bool.false_or, Bool.or_false, beq_self_eq_true, Bool.false_eq_true, bX12_boy_0, bX12_boy_19, bX12_boy_25, bX12_boy_52, bX12_boy_65, bX12_boy_66, bX12_boy_70, bX12_boy_83, bX12_boy_94, kX12_boy_0, kX12_boy_19, kX12_boy_25, kX12_boy_52, kX12_boy_65, kX12_boy_66, kX12_boy_70, kX12_boy_83, kX12_boy_94, qK_139, qR_139_0, qK_140, qR_139_1, qK_141, qR_139_5, qK_142, qR_139_6, qK_143, qR_139_7, qK_144, qR_139_8, qK_145, qR_139_9, qK_146, qR_139_21, qK_147, qR_139_25, qK_148, qR_139_30, qK_149, qR_139_31, qK_150, qR_139_33, qK_151, qR_139_34, qK_152, qR_139_35, qK_153, qR_139_36, qK_154, qR_139_39, qK_155, qR_139_40, qK_156, qR_139_41, qK_157]
    refine qBI.fn (m_boyOf σ (by omega)) (by decide) ?_
    rw [zMb4 hM hi]
    exact e_ok hA hW zRef.rf (by decide) rfl
set_option maxRecDepth 20000 in
theorem M_quarrel {σ : qSg} {A : zA} (hA : zMA σ A) (hW : zAW A) (q w : Int32) : qCI 3 278 [qr 139, qi q, qi w] σ (zCall σ (yQuarrel A q w)) := by
  have hM := hA.m
  have hw := hW.w
  have wq := hw.2.1
  refine qCI.of [some (qr 139), some (qi q), some (qi w)] ok_278 (Nat.le_of_ble_eq_true rfl) rfl ?_
  refine qV.go 30 [17] ok_278 ?_
  simp only [qW_nop, qW_iconst, qW_iloadn, qW_aloadn, qW_ifeq, qW_iflt, qW_icle, qW_cv2_0, qW_cv3_0, qW_iret0, Nat.reduceAdd, Nat.reduceMul, Nat.reduceBEq, Nat.reduceEqDiff, Nat.reduceLT, Nat.reduceLeDiff, Nat.zero_le, nI_add, nI_mul, nI_cl, qin_eq, qofI, qlg_0, qlg_s, qls_i0, qls_r0, qls_l0, qls_1, qls_2, qkl_i, qkl_r, qkl_l, qkl_n, qIsI_i, qIsL_l, qIsR_r, qint_i, qil_i, qil_r, qil_l, qf4_0, qf4_1, qf4_2, qf4_3, qf2_0, qf2_1, qcs_n, qcs_i, qcs_r, qcs_l, qst_n, qst_c, qJ_0, qJ_st, qJ_go, qfl_I, qfl_Z, qfl_L, qfl_R, qrI_i, qrL_l, qrV_v, qRcv_0, qRcv_s, eq_self, true_and, and_true, true_or, or_true, false_and, and_false, false_or, or_false, ite_true, if_true, if_false, Bool.true_or, Bool.false_or, Bool.or_false, beq_self_eq_true, Bool.false_eq_true, bX12_quarrel_0, bX12_quarrel_17, bX12_quarrel_23, kX12_quarrel_0, kX12_quarrel_17, kX12_quarrel_23, qK_139, qR_139_0, qK_140, qR_139_1, qK_141, qR_139_5, qK_142, qR_139_6, qK_143, qR_139_7, qK_144, qR_139_8, qK_145, qR_139_9, qK_146, qR_139_21, qK_147, qR_139_25, qK_148, qR_139_30, qK_149, qR_139_31, qK_150, qR_139_33, qK_151, qR_139_34, qK_152, qR_139_35, qK_153, qR_139_36, qK_154, qR_139_39, qK_155, qR_139_40, qK_156, qR_139_41, qK_157]
  refine qBI.fn (m_isQuarrel hM hw _) (by decide) ?_
  simp (disch := omega) only [nI_leI, nI_ltI, nI_eq, nI_cl, qin_eq, nI_add, nI_mul, qb_z, qb_t, qb_f, nI_ne0', Nat.reduceAdd, Bool.false_eq_true, if_false, if_true, true_and, and_true, Nat.reduceEqDiff, not_true_eq_false, not_false_eq_true, false_implies, true_implies, ite_true, ite_false]
  have no : (zrg q (aC A 0 1) && zih w 0 3) = false → qV 278 3 (.inl (zCall σ (yQuarrel A q w))) 17 [some (qr 139), some (qi q), some (qi w)] [] σ := by
    intro hz
    refine qV.go 30 [9999] ok_278 ?_
    simp only [qW_nop, qW_iconst, qW_iloadn, qW_aloadn, qW_ifeq, qW_iflt, qW_icle, qW_cv2_0, qW_cv3_0, qW_iret0, Nat.reduceAdd, Nat.reduceMul, Nat.reduceBEq, Nat.reduceEqDiff, Nat.reduceLT, Nat.reduceLeDiff, Nat.zero_le, nI_add, nI_mul, nI_cl, qin_eq, qofI, qlg_0, qlg_s, qls_i0, qls_r0, qls_l0, qls_1, qls_2, qkl_i, qkl_r, qkl_l, qkl_n, qIsI_i, qIsL_l, qIsR_r, qint_i, qil_i, qil_r, qil_l, qf4_0, qf4_1, qf4_2, qf4_3, qf2_0, qf2_1, qcs_n, qcs_i, qcs_r, qcs_l, qst_n, qst_c, qJ_0, qJ_st, qJ_go, qfl_I, qfl_Z, qfl_L, qfl_R, qrI_i, qrL_l, qrV_v, qRcv_0, qRcv_s, eq_self, true_and, and_true, true_or, or_true, false_and, and_false, false_or, or_false, ite_true, if_true, if_false, Bool.true_or, Bool.false_or, Bool.or_false, beq_self_eq_true, Bool.false_eq_true, bX12_quarrel_0, bX12_quarrel_17, bX12_quarrel_23, kX12_quarrel_0, kX12_quarrel_17, kX12_quarrel_23, qK_139, qR_139_0, qK_140, qR_139_1, qK_141, qR_139_5, qK_142, qR_139_6, qK_143, qR_139_7, qK_144, qR_139_8, qK_145, qR_139_9, qK_146, qR_139_21, qK_147, qR_139_25, qK_148, qR_139_30, qK_149, qR_139_31, qK_150, qR_139_33, qK_151, qR_139_34, qK_152, qR_139_35, qK_153, qR_139_36, qK_154, qR_139_39, qK_155, qR_139_40, qK_156, qR_139_41, qK_157]
    exact e_no hA hW zRef.rf (by decide) (by unfold yQuarrel; rw [if_pos hz]; rfl)
  simp only [z0i, qlt, qle, nI_t (show 3 < 2147483648 by decide)]
  refine ⟨fun g => no (by rw [g]; rfl), fun g => ⟨fun g1 => no (by simp [zih]; omega), fun g1 => ⟨fun g2 => ?_, fun g2 => no (by simp [zih]; omega)⟩⟩⟩
  have hz : zih w 0 3 = true := by simp [zih]; omega
  have hb : zrg q (aC A 0 1) = true := by simpa using g
  obtain ⟨k, -, hk, rfl⟩ := zih_nI hz
  obtain ⟨i, hi, rfl⟩ := zrg_nI hb
  refine qBI.fn (m_quarrelOf σ (by omega)) (by decide) ?_
  rw [zM_q hM hi (by omega)]
  exact e_ok hA hW zRef.rf (by decide) (by unfold yQuarrel; rw [if_neg (by rw [hb, hz]; decide), nI_tn (by omega), nI_tn (by omega)]; rfl)
set_option maxRecDepth 20000 in
theorem M_minute {σ : qSg} {A : zA} (hA : zMA σ A) (hW : zAW A) (n : Int32) : qCI 8 282 [qr 139, qi n] σ (zCall σ (yMinute A n)) := by
  have hM := hA.m
  have h5 := hW.1.2.1
  have h5 : aC A 0 5 ≤ 9999 := h5
  refine qCI.of [some (qr 139), some (qi n)] ok_282 (Nat.le_of_ble_eq_true rfl) rfl ?_
  refine qV.go 30 [9999] ok_282 ?_
  simp only [qW_nop, qW_iconst, qW_sipush, qW_ldc2, qW_lconst, qW_iloadn, qW_aloadn, qW_iadd, qW_i2l, qW_ifne, qW_icle, qW_goto, qW_getf, qW_iald, qW_cs3_0, qW_cv2_0, qW_iret0, Nat.reduceAdd, Nat.reduceMul, Nat.reduceBEq, Nat.reduceEqDiff, Nat.reduceLT, Nat.reduceLeDiff, Nat.zero_le, nI_add, nI_mul, nI_cl, qin_eq, qofI, qlg_0, qlg_s, qls_i0, qls_r0, qls_l0, qls_1, qls_2, qkl_i, qkl_r, qkl_l, qkl_n, qIsI_i, qIsL_l, qIsR_r, qint_i, qil_i, qil_r, qil_l, qf4_0, qf4_1, qf4_2, qf4_3, qf2_0, qf2_1, qcs_n, qcs_i, qcs_r, qcs_l, qst_n, qst_c, qJ_0, qJ_st, qJ_go, qfl_I, qfl_Z, qfl_L, qfl_R, qrI_i, qrL_l, qrV_v, qRcv_0, qRcv_s, eq_self, true_and, and_true, true_or, or_true, false_and, and_false, false_or, or_false, ite_true, if_true, if_false, Bool.true_or, Bool.false_or, Bool.or_false, beq_self_eq_true, Bool.false_eq_true, bX12_minute_0, bX12_minute_18, bX12_minute_40, bX12_minute_49, kX12_minute_0, kX12_minute_18, kX12_minute_40, kX12_minute_49, qK_139, qR_139_0, qK_140, qR_139_1, qK_141, qR_139_5, qK_142, qR_139_6, qK_143, qR_139_7, qK_144, qR_139_8, qK_145, qR_139_9, qK_146, qR_139_21, qK_147, qR_139_25, qK_148, qR_139_30, qK_149, qR_139_31, qK_150, qR_139_33, qK_151, qR_139_34, qK_152, qR_139_35, qK_153, qR_139_36, qK_154, qR_139_39, qK_155, qR_139_40, qK_156, qR_139_41, qK_157]
  refine qBI.fn (m_isFrom' σ _ (lo := 1) (hi := 240) (by decide) (by decide)) (by decide) ?_
  rw [zlh_i, zM_s hM 5 (by decide)]
  simp (disch := omega) only [nI_leI, nI_ltI, nI_eq, nI_cl, qin_eq, nI_add, nI_mul, qb_z, qb_t, qb_f, nI_ne0', Nat.reduceAdd, Bool.false_eq_true, if_false, if_true, true_and, and_true, Nat.reduceEqDiff, not_true_eq_false, not_false_eq_true, false_implies, true_implies, ite_true, ite_false]
  refine ⟨fun g => ?_, fun g => ?_⟩
  · have hz : zih n 1 240 = true := by simpa using g
    obtain ⟨k, h1, hk, rfl⟩ := zih_nI hz
    simp (disch := omega) only [nI_leI, nI_ltI, nI_eq, nI_cl, qin_eq, nI_add, nI_mul, qb_z, qb_t, qb_f, nI_ne0', Nat.reduceAdd, Bool.false_eq_true, if_false, if_true, true_and, and_true, Nat.reduceEqDiff, not_true_eq_false, not_false_eq_true, false_implies, true_implies, ite_true, ite_false]
    refine ⟨fun g2 => ?_, fun g2 => ?_⟩
    · refine qBI.of (m_minutesGo hM hW.w k (by omega)) (by decide) (fun r σ1 g3 => ?_)
      obtain ⟨rfl, a1, f1⟩ := g3
      refine e_ok (hA.c hW f1 a1 (zit_q _ _ _ (by decide) (by decide) (by decide) k)) (hW.c (zit_W hW.w k (by omega)) (by rw [zit_clock]; omega) (fun i i1 i4 i5 => zit_q _ _ _ (by decide) (by decide) (by intro h; injection h; omega) k)) (zRf_m f1) (by decide) ?_
      unfold yMinute
      rw [if_neg (by rw [hz]; decide), nI_tn (by omega), if_neg (by omega)]
      rfl
    · refine e_no hA hW zRef.rf (by decide) ?_
      unfold yMinute
      rw [if_neg (by rw [hz]; decide), nI_tn (by omega), if_pos (by omega)]
      rfl
  · refine e_no hA hW zRef.rf (by decide) ?_
    unfold yMinute
    rw [if_pos g]
    rfl
theorem zdawn_05 (C : zC) : (zdawn C).1 0 5 = 0 := by
  unfold zdawn
  exact zu_eq (C := zu (zdf C (C 0 1)).1 0 1 (zdf C (C 0 1)).2) (f := 0) (i := 5) (v := 0)
theorem zdawn_0 (C : zC) (i : Nat) (h1 : i ≠ 1) (h5 : i ≠ 5) : (zdawn C).1 0 i = C 0 i := by
  unfold zdawn
  show zu (zu (zdf C (C 0 1)).1 0 1 (zdf C (C 0 1)).2) 0 5 0 0 i = _
  rw [zu_ne (by omega), zu_ne (by omega), zdf_lo _ _ _ (by decide)]
set_option maxRecDepth 20000 in
theorem M_dawn {σ : qSg} {A : zA} (hA : zMA σ A) (hW : zAW A) : qCI 5 284 [qr 139] σ (zCall σ (yDawn A)) := by
  refine qCI.of [some (qr 139)] ok_284 (Nat.le_of_ble_eq_true rfl) rfl ?_
  refine qV.go 30 [9999] ok_284 ?_
  simp only [qW_nop, qW_aloadn, qW_cv1_0, qW_cv2_0, qW_iret0, Nat.reduceAdd, Nat.reduceMul, Nat.reduceBEq, Nat.reduceEqDiff, Nat.reduceLT, Nat.reduceLeDiff, Nat.zero_le, nI_add, nI_mul, nI_cl, qin_eq, qofI, qlg_0, qlg_s, qls_i0, qls_r0, qls_l0, qls_1, qls_2, qkl_i, qkl_r, qkl_l, qkl_n, qIsI_i, qIsL_l, qIsR_r, qint_i, qil_i, qil_r, qil_l, qf4_0, qf4_1, qf4_2, qf4_3, qf2_0, qf2_1, qcs_n, qcs_i, qcs_r, qcs_l, qst_n, qst_c, qJ_0, qJ_st, qJ_go, qfl_I, qfl_Z, qfl_L, qfl_R, qrI_i, qrL_l, qrV_v, qRcv_0, qRcv_s, eq_self, true_and, and_true, true_or, or_true, false_and, and_false, false_or, or_false, ite_true, if_true, if_false, Bool.true_or, Bool.false_or, Bool.or_false, beq_self_eq_true, Bool.false_eq_true, bX12_dawn_0, kX12_dawn_0, qK_139, qR_139_0, qK_140, qR_139_1, qK_141, qR_139_5, qK_142, qR_139_6, qK_143, qR_139_7, qK_144, qR_139_8, qK_145, qR_139_9, qK_146, qR_139_21, qK_147, qR_139_25, qK_148, qR_139_30, qK_149, qR_139_31, qK_150, qR_139_33, qK_151, qR_139_34, qK_152, qR_139_35, qK_153, qR_139_36, qK_154, qR_139_39, qK_155, qR_139_40, qK_156, qR_139_41, qK_157]
  refine qBI.of (m_dawns hA.m hW.w) (by decide) (fun r σ1 g3 => ?_)
  obtain ⟨rfl, a1, f1⟩ := g3
  exact e_ok (hA.c hW (zPc_m f1) a1 (zdawn_0 _ _ (by decide) (by decide))) (hW.c (zdawn_W hW.w) (by rw [zdawn_05]; omega) (fun i i1 i4 i5 => zdawn_0 _ _ i1 i5)) (zRf_c f1) (by decide) rfl
set_option maxRecDepth 20000 in
theorem M_boot {σ : qSg} {A : zA} (hA : zMA σ A) (hW : zAW A) (a b g : Int32) : qCI 3 286 [qr 139, qi a, qi b, qi g] σ (zCall σ (yBoot A a b g)) := by
  have hM := hA.m
  have hw := hW.w
  have wb := hw.1
  have wq := hw.2.1
  refine qCI.of [some (qr 139), some (qi a), some (qi b), some (qi g)] ok_286 (Nat.le_of_ble_eq_true rfl) rfl ?_
  refine qV.go 30 [35] ok_286 ?_
  simp only [qW_nop, qW_iconst, qW_ldc2, qW_lconst, qW_iloadn, qW_aloadn, qW_isub, qW_i2l, qW_ifeq, qW_iceq, qW_ifne, qW_goto, qW_getf, qW_iald, qW_cs3_0, qW_cv2_0, qW_cv4_0, qW_iret0, Nat.reduceAdd, Nat.reduceMul, Nat.reduceBEq, Nat.reduceEqDiff, Nat.reduceLT, Nat.reduceLeDiff, Nat.zero_le, nI_add, nI_mul, nI_cl, qin_eq, qofI, qlg_0, qlg_s, qls_i0, qls_r0, qls_l0, qls_1, qls_2, qkl_i, qkl_r, qkl_l, qkl_n, qIsI_i, qIsL_l, qIsR_r, qint_i, qil_i, qil_r, qil_l, qf4_0, qf4_1, qf4_2, qf4_3, qf2_0, qf2_1, qcs_n, qcs_i, qcs_r, qcs_l, qst_n, qst_c, qJ_0, qJ_st, qJ_go, qfl_I, qfl_Z, qfl_L, qfl_R, qrI_i, qrL_l, qrV_v, qRcv_0, qRcv_s, eq_self, true_and, and_true, true_or, or_true, false_and, and_false, false_or, or_false, ite_true, if_true, if_false, Bool.true_or, Bool.false_or, Bool.or_false, beq_self_eq_true, Bool.false_eq_true, bX12_boot_0, bX12_boot_35, bX12_boot_41, bX12_boot_66, bX12_boot_71, kX12_boot_0, kX12_boot_35, kX12_boot_41, kX12_boot_66, kX12_boot_71, qK_139, qR_139_0, qK_140, qR_139_1, qK_141, qR_139_5, qK_142, qR_139_6, qK_143, qR_139_7, qK_144, qR_139_8, qK_145, qR_139_9, qK_146, qR_139_21, qK_147, qR_139_25, qK_148, qR_139_30, qK_149, qR_139_31, qK_150, qR_139_33, qK_151, qR_139_34, qK_152, qR_139_35, qK_153, qR_139_36, qK_154, qR_139_39, qK_155, qR_139_40, qK_156, qR_139_41, qK_157]
  refine qBI.fn (m_isBoy hM hw _) (by decide) ?_
  rw [zrl_i]
  simp (disch := omega) only [nI_leI, nI_ltI, nI_eq, nI_cl, qin_eq, nI_add, nI_mul, qb_z, qb_t, qb_f, nI_ne0', Nat.reduceAdd, Bool.false_eq_true, if_false, if_true, true_and, and_true, Nat.reduceEqDiff, not_true_eq_false, not_false_eq_true, false_implies, true_implies, ite_true, ite_false]
  have no : (zrg a (aC A 0 0) && zrg b (aC A 0 0) && decide (a ≠ b) && zih g 0 99) = false → qV 286 3 (.inl (zCall σ (yBoot A a b g))) 35 [some (qr 139), some (qi a), some (qi b), some (qi g)] [] σ := by
    intro hz
    refine qV.go 30 [9999] ok_286 ?_
    simp only [qW_nop, qW_iconst, qW_ldc2, qW_lconst, qW_iloadn, qW_aloadn, qW_isub, qW_i2l, qW_ifeq, qW_iceq, qW_ifne, qW_goto, qW_getf, qW_iald, qW_cs3_0, qW_cv2_0, qW_cv4_0, qW_iret0, Nat.reduceAdd, Nat.reduceMul, Nat.reduceBEq, Nat.reduceEqDiff, Nat.reduceLT, Nat.reduceLeDiff, Nat.zero_le, nI_add, nI_mul, nI_cl, qin_eq, qofI, qlg_0, qlg_s, qls_i0, qls_r0, qls_l0, qls_1, qls_2, qkl_i, qkl_r, qkl_l, qkl_n, qIsI_i, qIsL_l, qIsR_r, qint_i, qil_i, qil_r, qil_l, qf4_0, qf4_1, qf4_2, qf4_3, qf2_0, qf2_1, qcs_n, qcs_i, qcs_r, qcs_l, qst_n, qst_c, qJ_0, qJ_st, qJ_go, qfl_I, qfl_Z, qfl_L, qfl_R, qrI_i, qrL_l, qrV_v, qRcv_0, qRcv_s, eq_self, true_and, and_true, true_or, or_true, false_and, and_false, false_or, or_false, ite_true, if_true, if_false, Bool.true_or, Bool.false_or, Bool.or_false, beq_self_eq_true, Bool.false_eq_true, bX12_boot_0, bX12_boot_35, bX12_boot_41, bX12_boot_66, bX12_boot_71, kX12_boot_0, kX12_boot_35, kX12_boot_41, kX12_boot_66, kX12_boot_71, qK_139, qR_139_0, qK_140, qR_139_1, qK_141, qR_139_5, qK_142, qR_139_6, qK_143, qR_139_7, qK_144, qR_139_8, qK_145, qR_139_9, qK_146, qR_139_21, qK_147, qR_139_25, qK_148, qR_139_30, qK_149, qR_139_31, qK_150, qR_139_33, qK_151, qR_139_34, qK_152, qR_139_35, qK_153, qR_139_36, qK_154, qR_139_39, qK_155, qR_139_40, qK_156, qR_139_41, qK_157]
    exact e_no hA hW zRef.rf (by decide) (by unfold yBoot; rw [if_pos hz]; rfl)
  refine ⟨fun h1 => no (by rw [h1]; rfl), fun h1 => ?_⟩
  have h1 : zrg a (aC A 0 0) = true := by simpa using h1
  refine qBI.fn (m_isBoy hM hw _) (by decide) ?_
  rw [zrl_i]
  simp (disch := omega) only [nI_leI, nI_ltI, nI_eq, nI_cl, qin_eq, nI_add, nI_mul, qb_z, qb_t, qb_f, nI_ne0', Nat.reduceAdd, Bool.false_eq_true, if_false, if_true, true_and, and_true, Nat.reduceEqDiff, not_true_eq_false, not_false_eq_true, false_implies, true_implies, ite_true, ite_false]
  refine ⟨fun h2 => no (by rw [h2, Bool.and_false]; rfl), fun h2 => ?_⟩
  have h2 : zrg b (aC A 0 0) = true := by simpa using h2
  refine ⟨fun h3 => no (by rw [decide_eq_false (by simpa using h3), Bool.and_false]; rfl), fun h3 => ?_⟩
  refine qBI.fn (m_isFrom' σ _ (lo := 0) (hi := 99) (by decide) (by decide)) (by decide) ?_
  rw [zlh_i]
  simp (disch := omega) only [nI_leI, nI_ltI, nI_eq, nI_cl, qin_eq, nI_add, nI_mul, qb_z, qb_t, qb_f, nI_ne0', Nat.reduceAdd, Bool.false_eq_true, if_false, if_true, true_and, and_true, Nat.reduceEqDiff, not_true_eq_false, not_false_eq_true, false_implies, true_implies, ite_true, ite_false]
  refine ⟨fun h4 => ?_, fun h4 => no (by rw [h4, Bool.and_false])⟩
  have h4 : zih g 0 99 = true := by simpa using h4
  have eY : yBoot A a b g = if aC A 0 1 = 10 then yNo A 4 else yOk (sC A (zboot (aC A) a.toInt.toNat b.toInt.toNat g.toInt.toNat)) (nI (aC A 0 1)) := by
    unfold yBoot
    rw [if_neg (by rw [h1, h2, h4, decide_eq_true h3]; decide)]
  rw [eY]
  obtain ⟨a', ha, rfl⟩ := zrg_nI h1
  obtain ⟨b', hb, rfl⟩ := zrg_nI h2
  obtain ⟨g', -, hg, rfl⟩ := zih_nI h4
  have hne : a' ≠ b' := fun e => h3 (by rw [e])
  rw [nI_tn (by omega), nI_tn (by omega), nI_tn (by omega)]
  refine qBI.of (m_boots hM hw (g := g') (a := a') (b := b') (by omega) (by omega) (by omega)) (by decide) (fun r σ1 g5 => ?_)
  obtain ⟨rfl, a1, a2, f1⟩ := g5
  by_cases e10 : aC A 0 1 = 10
  · have hn : ¬ (a' ≠ b' ∧ aC A 0 1 < 10) := by omega
    rw [if_pos e10, decide_eq_false hn]
    have e := a2 hn
    subst e
    simp (disch := omega) only [nI_leI, nI_ltI, nI_eq, nI_cl, qin_eq, nI_add, nI_mul, qb_z, qb_t, qb_f, nI_ne0', Nat.reduceAdd, Bool.false_eq_true, if_false, if_true, true_and, and_true, Nat.reduceEqDiff, not_true_eq_false, not_false_eq_true, false_implies, true_implies, ite_true, ite_false]
    exact e_no hA hW zRef.rf (by decide) rfl
  · have hy : a' ≠ b' ∧ aC A 0 1 < 10 := ⟨hne, by omega⟩
    rw [if_neg e10, decide_eq_true hy]
    have m1 := a1 hy.1 hy.2
    have e1 : σ1.1 140 1 = nI (aC A 0 1 + 1) := by rw [zM_s m1 1 (by decide), zboot_q]
    rw [e1, nI_sub (by omega), Nat.add_sub_cancel]
    have t1 : (qb true = 0) = False := by rw [qb_z]; simp
    simp only [t1, false_implies, not_false_eq_true, true_implies, true_and]
    exact e_ok (hA.c hW (zPc_m f1) m1 (zboot_ne (by omega) (by omega))) (hW.c (zboot_W hw hy.2 ha hb hne hg) (by rw [zboot_ne (by omega) (by omega)]; exact hW.1.2.1) (fun i i1 i4 i5 => zboot_ne (by omega) (by omega))) (zRf_c f1) (by decide) rfl
