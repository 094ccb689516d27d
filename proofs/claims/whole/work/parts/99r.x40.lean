/-! the class's calls: who hears whom; mornings -/
set_option maxRecDepth 20000 in
theorem X_stir {σ : qSg} {A : zA} (hA : zXA σ A) (hW : zAW A) (q g : Int32) : qCI 3 165 [qr 0, qi q, qi g] σ (zXCall σ (yStir A q g)) := by
  have hX := hA.x
  have hw := hW.w
  have wq := hw.2.1
  refine qCI.of [some (qr 0), some (qi q), some (qi g), none] ok_165 (Nat.le_of_ble_eq_true rfl) rfl ?_
  have no : (zrg q (aC A 0 1) && zih g 0 99) = false → qV 165 3 (.inl (zXCall σ (yStir A q g))) 23 [some (qr 0), some (qi q), some (qi g), none] [] σ := by
    intro hz
    refine qV.go 30 [9999] ok_165 ?_
    simp only [qW_nop, qW_iconst, qW_bipush, qW_ldc2, qW_lconst, qW_iloadn, qW_aloadn, qW_istoren, qW_i2l, qW_ifeq, qW_ifne, qW_getf, qW_iald, qW_iast, qW_cs3_0, qW_cv2_0, qW_iret0, Nat.reduceAdd, Nat.reduceMul, Nat.reduceBEq, Nat.reduceEqDiff, Nat.reduceLT, Nat.reduceLeDiff, Nat.zero_le, nI_add, nI_mul, nI_cl, qin_eq, qofI, qlg_0, qlg_s, qls_i0, qls_r0, qls_l0, qls_1, qls_2, qkl_i, qkl_r, qkl_l, qkl_n, qIsI_i, qIsL_l, qIsR_r, qint_i, qil_i, qil_r, qil_l, qf4_0, qf4_1, qf4_2, qf4_3, qf2_0, qf2_1, qcs_n, qcs_i, qcs_r, qcs_l, qst_n, qst_c, qJ_0, qJ_st, qJ_go, qfl_I, qfl_Z, qfl_L, qfl_R, qrI_i, qrL_l, qrV_v, qRcv_0, qRcv_s, eq_self, true_and, and_true, true_or, or_true, false_and, and_false, false_or, or_false, ite_true, if_true, if_false, Bool.true_or, Bool.false_or, Bool.or_false, beq_self_eq_true, Bool.false_eq_true, bX11_stir_0, bX11_stir_23, bX11_stir_29, bX11_stir_47, kX11_stir_0, kX11_stir_23, kX11_stir_29, kX11_stir_47, qK_0, qR_0_0, qK_1, qR_0_1, qK_13, qR_0_2, qK_25, qR_0_3, qK_40, qR_0_4, qK_41, qR_0_5, qK_45, qR_0_6, qK_46, qR_0_7, qK_50, qR_0_8, qK_53, qR_0_9, qK_66, qR_0_10, qK_74, qR_0_11, qK_80, qR_0_12, qK_82, qR_0_14, qK_83, qR_0_15, qK_84]
    exact g_no hA hW zCls.rf (by decide) (by unfold yStir; rw [if_pos hz]; rfl)
  refine qV.go 30 [23, 29] ok_165 ?_
  simp only [qW_nop, qW_iconst, qW_bipush, qW_ldc2, qW_lconst, qW_iloadn, qW_aloadn, qW_istoren, qW_i2l, qW_ifeq, qW_ifne, qW_getf, qW_iald, qW_iast, qW_cs3_0, qW_cv2_0, qW_iret0, Nat.reduceAdd, Nat.reduceMul, Nat.reduceBEq, Nat.reduceEqDiff, Nat.reduceLT, Nat.reduceLeDiff, Nat.zero_le, nI_add, nI_mul, nI_cl, qin_eq, qofI, qlg_0, qlg_s, qls_i0, qls_r0, qls_l0, qls_1, qls_2, qkl_i, qkl_r, qkl_l, qkl_n, qIsI_i, qIsL_l, qIsR_r, qint_i, qil_i, qil_r, qil_l, qf4_0, qf4_1, qf4_2, qf4_3, qf2_0, qf2_1, qcs_n, qcs_i, qcs_r, qcs_l, qst_n, qst_c, qJ_0, qJ_st, qJ_go, qfl_I, qfl_Z, qfl_L, qfl_R, qrI_i, qrL_l, qrV_v, qRcv_0, qRcv_s, eq_self, true_and, and_true, true_or, or_true, false_and, and_false, false_or, or_false, ite_true, if_true, if_false, Bool.true_or, Bool.false_or, Bool.or_false, beq_self_eq_true, Bool.false_eq_true, bX11_stir_0, bX11_stir_23, bX11_stir_29, bX11_stir_47, kX11_stir_0, kX11_stir_23, kX11_stir_29, kX11_stir_47, qK_0, qR_0_0, qK_1, qR_0_1, qK_13, qR_0_2, qK_25, qR_0_3, qK_40, qR_0_4, qK_41, qR_0_5, qK_45, qR_0_6, qK_46, qR_0_7, qK_50, qR_0_8, qK_53, qR_0_9, qK_66, qR_0_10, qK_74, qR_0_11, qK_80, qR_0_12, qK_82, qR_0_14, qK_83, qR_0_15, qK_84, qK_1, qR_1_6, qK_2, qR_1_7, qK_3, qR_1_8, qK_4, qR_1_9, qK_5, qR_1_10, qK_6, qR_1_11, qK_7, qR_1_12, qK_8, qR_1_13, qK_9, qR_1_14, qK_10, qR_1_15, qK_11, qR_1_16, qK_12]
  refine qBI.fn (x_hasQuarrel zCb_n hX.1 hw q) (by decide) ?_
  simp (disch := omega) only [nI_leI, nI_ltI, nI_eq, nI_cl, qin_eq, nI_add, nI_mul, qb_z, qb_t, qb_f, nI_ne0', Nat.reduceAdd, Bool.false_eq_true, if_false, if_true, true_and, and_true, Nat.reduceEqDiff, not_true_eq_false, not_false_eq_true, false_implies, true_implies, ite_true, ite_false, Bool.not_eq_false, Bool.not_eq_true]
  refine ⟨fun h1 => no (by rw [h1]; rfl), fun h1 => ?_⟩
  refine qBI.fn (x_withinI σ g (lo := 0) (hi := 99) (by decide) (by decide)) (by decide) ?_
  simp (disch := omega) only [nI_leI, nI_ltI, nI_eq, nI_cl, qin_eq, nI_add, nI_mul, qb_z, qb_t, qb_f, nI_ne0', Nat.reduceAdd, Bool.false_eq_true, if_false, if_true, true_and, and_true, Nat.reduceEqDiff, not_true_eq_false, not_false_eq_true, false_implies, true_implies, ite_true, ite_false, Bool.not_eq_false, Bool.not_eq_true]
  refine And.symm ⟨fun h2 => no (by rw [h2, Bool.and_false]), fun h2 => ?_⟩
  obtain ⟨i, hi, rfl⟩ := zrg_nI h1
  obtain ⟨v, -, hv, rfl⟩ := zih_nI h2
  have eY : yStir A (nI i) (nI v) = if zOpen (aC A) i = false then yNo A 7 else yOk (sC A (zu (aC A) 8 i v)) (nI (aC A 8 i)) := by
    unfold yStir
    rw [if_neg (by rw [h1, h2]; decide), nI_tn (by omega), nI_tn (by omega)]
  rw [eY]
  refine qV.go 30 [9999] ok_165 ?_
  simp only [qW_nop, qW_iconst, qW_bipush, qW_ldc2, qW_lconst, qW_iloadn, qW_aloadn, qW_istoren, qW_i2l, qW_ifeq, qW_ifne, qW_getf, qW_iald, qW_iast, qW_cs3_0, qW_cv2_0, qW_iret0, Nat.reduceAdd, Nat.reduceMul, Nat.reduceBEq, Nat.reduceEqDiff, Nat.reduceLT, Nat.reduceLeDiff, Nat.zero_le, nI_add, nI_mul, nI_cl, qin_eq, qofI, qlg_0, qlg_s, qls_i0, qls_r0, qls_l0, qls_1, qls_2, qkl_i, qkl_r, qkl_l, qkl_n, qIsI_i, qIsL_l, qIsR_r, qint_i, qil_i, qil_r, qil_l, qf4_0, qf4_1, qf4_2, qf4_3, qf2_0, qf2_1, qcs_n, qcs_i, qcs_r, qcs_l, qst_n, qst_c, qJ_0, qJ_st, qJ_go, qfl_I, qfl_Z, qfl_L, qfl_R, qrI_i, qrL_l, qrV_v, qRcv_0, qRcv_s, eq_self, true_and, and_true, true_or, or_true, false_and, and_false, false_or, or_false, ite_true, if_true, if_false, Bool.true_or, Bool.false_or, Bool.or_false, beq_self_eq_true, Bool.false_eq_true, bX11_stir_0, bX11_stir_23, bX11_stir_29, bX11_stir_47, kX11_stir_0, kX11_stir_23, kX11_stir_29, kX11_stir_47, qK_0, qR_0_0, qK_1, qR_0_1, qK_13, qR_0_2, qK_25, qR_0_3, qK_40, qR_0_4, qK_41, qR_0_5, qK_45, qR_0_6, qK_46, qR_0_7, qK_50, qR_0_8, qK_53, qR_0_9, qK_66, qR_0_10, qK_74, qR_0_11, qK_80, qR_0_12, qK_82, qR_0_14, qK_83, qR_0_15, qK_84, qK_1, qR_1_6, qK_2, qR_1_7, qK_3, qR_1_8, qK_4, qR_1_9, qK_5, qR_1_10, qK_6, qR_1_11, qK_7, qR_1_12, qK_8, qR_1_13, qK_9, qR_1_14, qK_10, qR_1_15, qK_11, qR_1_16, qK_12]
  refine qBI.fn (x_isOpen zCb_n hX.1 hw hi) (by decide) ?_
  simp (disch := omega) only [nI_leI, nI_ltI, nI_eq, nI_cl, qin_eq, nI_add, nI_mul, qb_z, qb_t, qb_f, nI_ne0', Nat.reduceAdd, Bool.false_eq_true, if_false, if_true, true_and, and_true, Nat.reduceEqDiff, not_true_eq_false, not_false_eq_true, false_implies, true_implies, ite_true, ite_false, Bool.not_eq_false, Bool.not_eq_true]
  refine And.symm ⟨fun h3 => ?_, fun h3 => ?_⟩
  · rw [if_pos h3]
    exact g_no hA hW zCls.rf (by decide) rfl
  · rw [if_neg (by rw [h3]; decide)]
    have e2 : σ.1 11 i = nI (aC A 8 i) := hX.1.gr hi
    rw [e2]
    have X1 : zX (qwi σ 11 i (nI v)) 1 (zu (aC A) 8 i v) := hX.uq (f := 2) (q := i) (v := v) (by decide)
    have f1 : zF (zXf 1) σ (qwi σ 11 i (nI v)) := zF.wi ⟨by decide, by decide⟩
    exact g_ok (hA.c hW f1 X1 (zu_ne (by omega))) (hW.c (zu8_W hw hv) (by rw [zu_ne (by omega)]; exact hW.1.2.1) (fun j _ _ _ => zu_ne (by omega))) (zCls_x f1) (by decide) rfl
set_option maxRecDepth 20000 in
theorem X_rule {σ : qSg} {A : zA} (hA : zXA σ A) (hW : zAW A) (o : Int32) : qCI 2 167 [qr 0, qi o] σ (zXCall σ (yRule A o)) := by
  have hX := hA.x
  have hw := hW.w
  refine qCI.of [some (qr 0), some (qi o)] ok_167 (Nat.le_of_ble_eq_true rfl) rfl ?_
  refine qV.go 30 [9999] ok_167 ?_
  simp only [qW_nop, qW_iconst, qW_ldc2, qW_lconst, qW_iloadn, qW_aloadn, qW_i2l, qW_ifne, qW_getf, qW_cs3_0, qW_cv1_0, qW_cv2_0, qW_iret1, qW_putf0, Nat.reduceAdd, Nat.reduceMul, Nat.reduceBEq, Nat.reduceEqDiff, Nat.reduceLT, Nat.reduceLeDiff, Nat.zero_le, nI_add, nI_mul, nI_cl, qin_eq, qofI, qlg_0, qlg_s, qls_i0, qls_r0, qls_l0, qls_1, qls_2, qkl_i, qkl_r, qkl_l, qkl_n, qIsI_i, qIsL_l, qIsR_r, qint_i, qil_i, qil_r, qil_l, qf4_0, qf4_1, qf4_2, qf4_3, qf2_0, qf2_1, qcs_n, qcs_i, qcs_r, qcs_l, qst_n, qst_c, qJ_0, qJ_st, qJ_go, qfl_I, qfl_Z, qfl_L, qfl_R, qrI_i, qrL_l, qrV_v, qRcv_0, qRcv_s, eq_self, true_and, and_true, true_or, or_true, false_and, and_false, false_or, or_false, ite_true, if_true, if_false, Bool.true_or, Bool.false_or, Bool.or_false, beq_self_eq_true, Bool.false_eq_true, bX11_rule_0, bX11_rule_18, kX11_rule_0, kX11_rule_18, qK_0, qR_0_0, qK_1, qR_0_1, qK_13, qR_0_2, qK_25, qR_0_3, qK_40, qR_0_4, qK_41, qR_0_5, qK_45, qR_0_6, qK_46, qR_0_7, qK_50, qR_0_8, qK_53, qR_0_9, qK_66, qR_0_10, qK_74, qR_0_11, qK_80, qR_0_12, qK_82, qR_0_14, qK_83, qR_0_15, qK_84, qK_1, qR_1_6, qK_2, qR_1_7, qK_3, qR_1_8, qK_4, qR_1_9, qK_5, qR_1_10, qK_6, qR_1_11, qK_7, qR_1_12, qK_8, qR_1_13, qK_9, qR_1_14, qK_10, qR_1_15, qK_11, qR_1_16, qK_12]
  refine qBI.fn (x_withinI σ o (lo := 0) (hi := 16) (by decide) (by decide)) (by decide) ?_
  simp (disch := omega) only [nI_leI, nI_ltI, nI_eq, nI_cl, qin_eq, nI_add, nI_mul, qb_z, qb_t, qb_f, nI_ne0', Nat.reduceAdd, Bool.false_eq_true, if_false, if_true, true_and, and_true, Nat.reduceEqDiff, not_true_eq_false, not_false_eq_true, false_implies, true_implies, ite_true, ite_false, Bool.not_eq_false, Bool.not_eq_true]
  refine And.symm ⟨fun h2 => ?_, fun h2 => ?_⟩
  · exact g_deny hA hW zCls.rf (by decide) (by unfold yRule; rw [if_pos h2]; rfl)
  obtain ⟨v, -, hv, rfl⟩ := zih_nI h2
  have X1 : zX (qwi σ 1 2 (nI v)) 1 (zu (aC A) 0 4 v) := hX.dim (Or.inr (Or.inr ⟨rfl, rfl⟩)) (Or.inr rfl)
  have f1 : zF (zXf 1) σ (qwi σ 1 2 (nI v)) := zF.wi ⟨by decide, by decide⟩
  exact g_grant (hA.c hW f1 X1 (zu_ne (by omega))) (hW.c (zuo_W hw hv) (by rw [zu_ne (by omega)]; exact hW.1.2.1) (fun j _ h4 _ => zu_ne (by omega))) (zCls_x f1) (by decide) (by unfold yRule; rw [if_neg (by rw [h2]; decide), nI_tn (by omega)]; rfl)
set_option maxRecDepth 20000 in
theorem X_come {σ : qSg} {A : zA} (hA : zXA σ A) (hW : zAW A) (c p : Int32) : qCI 5 166 [qr 0, qi c, qi p] σ (zXCall σ (yCome A c p)) := by
  have hX := hA.x
  have hw := hW.w
  have wb := hw.1
  have hc36 := zSW_cells hw
  refine qCI.of [some (qr 0), some (qi c), some (qi p)] ok_166 (Nat.le_of_ble_eq_true rfl) rfl ?_
  have no : (zrg c (aC A 0 2 * aC A 0 3) && zih p 1 30) = false → qV 166 5 (.inl (zXCall σ (yCome A c p))) 23 [some (qr 0), some (qi c), some (qi p)] [] σ := by
    intro hz
    refine qV.go 30 [9999] ok_166 ?_
    simp only [qW_nop, qW_iconst, qW_bipush, qW_ldc2, qW_lconst, qW_iloadn, qW_aloadn, qW_i2l, qW_ifeq, qW_ifne, qW_iclt, qW_getf, qW_cs3_0, qW_cv2_0, qW_cv6_0, qW_iret0, Nat.reduceAdd, Nat.reduceMul, Nat.reduceBEq, Nat.reduceEqDiff, Nat.reduceLT, Nat.reduceLeDiff, Nat.zero_le, nI_add, nI_mul, nI_cl, qin_eq, qofI, qlg_0, qlg_s, qls_i0, qls_r0, qls_l0, qls_1, qls_2, qkl_i, qkl_r, qkl_l, qkl_n, qIsI_i, qIsL_l, qIsR_r, qint_i, qil_i, qil_r, qil_l, qf4_0, qf4_1, qf4_2, qf4_3, qf2_0, qf2_1, qcs_n, qcs_i, qcs_r, qcs_l, qst_n, qst_c, qJ_0, qJ_st, qJ_go, qfl_I, qfl_Z, qfl_L, qfl_R, qrI_i, qrL_l, qrV_v, qRcv_0, qRcv_s, eq_self, true_and, and_true, true_or, or_true, false_and, and_false, false_or, or_false, ite_true, if_true, if_false, Bool.true_or, Bool.false_or, Bool.or_false, beq_self_eq_true, Bool.false_eq_true, bX11_come_0, bX11_come_23, bX11_come_29, bX11_come_47, kX11_come_0, kX11_come_23, kX11_come_29, kX11_come_47, qK_0, qR_0_0, qK_1, qR_0_1, qK_13, qR_0_2, qK_25, qR_0_3, qK_40, qR_0_4, qK_41, qR_0_5, qK_45, qR_0_6, qK_46, qR_0_7, qK_50, qR_0_8, qK_53, qR_0_9, qK_66, qR_0_10, qK_74, qR_0_11, qK_80, qR_0_12, qK_82, qR_0_14, qK_83, qR_0_15, qK_84]
    exact g_no hA hW zCls.rf (by decide) (by unfold yCome; rw [if_pos hz]; rfl)
  refine qV.go 30 [23, 29] ok_166 ?_
  simp only [qW_nop, qW_iconst, qW_bipush, qW_ldc2, qW_lconst, qW_iloadn, qW_aloadn, qW_i2l, qW_ifeq, qW_ifne, qW_iclt, qW_getf, qW_cs3_0, qW_cv2_0, qW_cv6_0, qW_iret0, Nat.reduceAdd, Nat.reduceMul, Nat.reduceBEq, Nat.reduceEqDiff, Nat.reduceLT, Nat.reduceLeDiff, Nat.zero_le, nI_add, nI_mul, nI_cl, qin_eq, qofI, qlg_0, qlg_s, qls_i0, qls_r0, qls_l0, qls_1, qls_2, qkl_i, qkl_r, qkl_l, qkl_n, qIsI_i, qIsL_l, qIsR_r, qint_i, qil_i, qil_r, qil_l, qf4_0, qf4_1, qf4_2, qf4_3, qf2_0, qf2_1, qcs_n, qcs_i, qcs_r, qcs_l, qst_n, qst_c, qJ_0, qJ_st, qJ_go, qfl_I, qfl_Z, qfl_L, qfl_R, qrI_i, qrL_l, qrV_v, qRcv_0, qRcv_s, eq_self, true_and, and_true, true_or, or_true, false_and, and_false, false_or, or_false, ite_true, if_true, if_false, Bool.true_or, Bool.false_or, Bool.or_false, beq_self_eq_true, Bool.false_eq_true, bX11_come_0, bX11_come_23, bX11_come_29, bX11_come_47, kX11_come_0, kX11_come_23, kX11_come_29, kX11_come_47, qK_0, qR_0_0, qK_1, qR_0_1, qK_13, qR_0_2, qK_25, qR_0_3, qK_40, qR_0_4, qK_41, qR_0_5, qK_45, qR_0_6, qK_46, qR_0_7, qK_50, qR_0_8, qK_53, qR_0_9, qK_66, qR_0_10, qK_74, qR_0_11, qK_80, qR_0_12, qK_82, qR_0_14, qK_83, qR_0_15, qK_84, qK_1, qR_1_6, qK_2, qR_1_7, qK_3, qR_1_8, qK_4, qR_1_9, qK_5, qR_1_10, qK_6, qR_1_11, qK_7, qR_1_12, qK_8, qR_1_13, qK_9, qR_1_14, qK_10, qR_1_15, qK_11, qR_1_16, qK_12]
  refine qBI.fn (x_hasCell zCb_n hX.1 hw c) (by decide) ?_
  simp (disch := omega) only [nI_leI, nI_ltI, nI_eq, nI_cl, qin_eq, nI_add, nI_mul, qb_z, qb_t, qb_f, nI_ne0', Nat.reduceAdd, Bool.false_eq_true, if_false, if_true, true_and, and_true, Nat.reduceEqDiff, not_true_eq_false, not_false_eq_true, false_implies, true_implies, ite_true, ite_false, Bool.not_eq_false, Bool.not_eq_true]
  refine ⟨fun h1 => no (by rw [h1]; rfl), fun h1 => ?_⟩
  refine qBI.fn (x_withinI σ p (lo := 1) (hi := 30) (by decide) (by decide)) (by decide) ?_
  simp (disch := omega) only [nI_leI, nI_ltI, nI_eq, nI_cl, qin_eq, nI_add, nI_mul, qb_z, qb_t, qb_f, nI_ne0', Nat.reduceAdd, Bool.false_eq_true, if_false, if_true, true_and, and_true, Nat.reduceEqDiff, not_true_eq_false, not_false_eq_true, false_implies, true_implies, ite_true, ite_false, Bool.not_eq_false, Bool.not_eq_true]
  refine And.symm ⟨fun h2 => no (by rw [h2, Bool.and_false]), fun h2 => ?_⟩
  obtain ⟨i, hi, rfl⟩ := zrg_nI h1
  obtain ⟨v, v1, hv, rfl⟩ := zih_nI h2
  have eY : yCome A (nI i) (nI v) = if aC A 0 0 = 8 then yNo A 4 else yOk (sK A (zcome (aC A) i v 1 2, fun b => if b = aC A 0 0 then [] else A.1.2.1 b, A.1.2.2)) (nI (aC A 0 0)) := by
    unfold yCome
    rw [if_neg (by rw [h1, h2]; decide), nI_tn (by omega), nI_tn (by omega)]
  rw [eY]
  have e4 : σ.1 1 4 = nI (aC A 0 0) := hX.1.b
  refine qV.go 30 [9999] ok_166 ?_
  simp only [qW_nop, qW_iconst, qW_bipush, qW_ldc2, qW_lconst, qW_iloadn, qW_aloadn, qW_i2l, qW_ifeq, qW_ifne, qW_iclt, qW_getf, qW_cs3_0, qW_cv2_0, qW_cv6_0, qW_iret0, Nat.reduceAdd, Nat.reduceMul, Nat.reduceBEq, Nat.reduceEqDiff, Nat.reduceLT, Nat.reduceLeDiff, Nat.zero_le, nI_add, nI_mul, nI_cl, qin_eq, qofI, qlg_0, qlg_s, qls_i0, qls_r0, qls_l0, qls_1, qls_2, qkl_i, qkl_r, qkl_l, qkl_n, qIsI_i, qIsL_l, qIsR_r, qint_i, qil_i, qil_r, qil_l, qf4_0, qf4_1, qf4_2, qf4_3, qf2_0, qf2_1, qcs_n, qcs_i, qcs_r, qcs_l, qst_n, qst_c, qJ_0, qJ_st, qJ_go, qfl_I, qfl_Z, qfl_L, qfl_R, qrI_i, qrL_l, qrV_v, qRcv_0, qRcv_s, eq_self, true_and, and_true, true_or, or_true, false_and, and_false, false_or, or_false, ite_true, if_true, if_false, Bool.true_or, Bool.false_or, Bool.or_false, beq_self_eq_true, Bool.false_eq_true, bX11_come_0, bX11_come_23, bX11_come_29, bX11_come_47, kX11_come_0, kX11_come_23, kX11_come_29, kX11_come_47, qK_0, qR_0_0, qK_1, qR_0_1, qK_13, qR_0_2, qK_25, qR_0_3, qK_40, qR_0_4, qK_41, qR_0_5, qK_45, qR_0_6, qK_46, qR_0_7, qK_50, qR_0_8, qK_53, qR_0_9, qK_66, qR_0_10, qK_74, qR_0_11, qK_80, qR_0_12, qK_82, qR_0_14, qK_83, qR_0_15, qK_84, qK_1, qR_1_6, qK_2, qR_1_7, qK_3, qR_1_8, qK_4, qR_1_9, qK_5, qR_1_10, qK_6, qR_1_11, qK_7, qR_1_12, qK_8, qR_1_13, qK_9, qR_1_14, qK_10, qR_1_15, qK_11, qR_1_16, qK_12]
  rw [e4]
  simp (disch := omega) only [nI_leI, nI_ltI, nI_eq, nI_cl, qin_eq, nI_add, nI_mul, qb_z, qb_t, qb_f, nI_ne0', Nat.reduceAdd, Bool.false_eq_true, if_false, if_true, true_and, and_true, Nat.reduceEqDiff, not_true_eq_false, not_false_eq_true, false_implies, true_implies, ite_true, ite_false]
  refine And.symm ⟨fun h3 => ?_, fun h3 => ?_⟩
  · rw [if_pos (by omega)]
    exact g_no hA hW zCls.rf (by decide) rfl
  · rw [if_neg (by omega)]
    refine qBI.of (x_addBoy zCb_n hX.1 hw (by omega) (lN 0) (c := i) (p := v) (s := 1) (e := 2) hi v1 hv (by decide) (by decide)) (by decide) (fun r σ1 g1 => ?_)
    obtain ⟨rfl, X1, w1, f1⟩ := g1
    have h3W := hW.2.1
    obtain ⟨k1, k2, k3, k4, k5, k6, k7, k8, k9, k10⟩ := id hA
    have e : ∀ a j, ¬ (1 ≤ a ∧ a ≤ 12) → σ1.1 a j = σ.1 a j := fun a j hn => f1.1 a j (by unfold zXf; omega)
    have e2 : ∀ a j, ¬ (a = 2 ∧ j = aC A 0 0) → σ1.2 a j = σ.2 a j := fun a j hn => f1.2 a j (by unfold zXn; omega)
    have c00 := zcome_0 (aC A) i v 1 2
    refine g_ok (A1 := sK A (zcome (aC A) i v 1 2, fun b => if b = aC A 0 0 then [] else A.1.2.1 b, A.1.2.2)) ?_ (hW.come (by omega) hi v1 hv) (zCls.g f1 (fun a j h => by unfold zXf at h; omega) (fun a j h => by unfold zXn at h; omega)) (by decide) rfl
    refine ⟨⟨X1, fun b hb => ?_, k1.2.2.fr fun a j h1 h2 => e a j (by omega)⟩, k2.fr h3W (e _ _ (by omega)) (fun a j _ _ => e _ _ (by omega)) (fun a j _ _ => e2 _ _ (by omega)), k3.fr (fun j => e _ _ (by omega)) (fun j => e _ _ (by omega)) (fun j => e2 _ _ (by omega)), k4.fr (e _ _ (by omega)) (fun j => e _ _ (by omega)), k5.fr (fun j => e2 _ _ (by omega)), ⟨?_, ?_⟩, ?_, ⟨?_, ?_⟩, k9.fr (e _ _ (by omega)) (fun j => e _ _ (by omega)), fun j hj => ?_⟩
    · have hb : b < zcome (aC A) i v 1 2 0 0 := hb
      rw [c00] at hb
      show σ1.2 2 b = lN (zcg 32 96 (if b = aC A 0 0 then [] else A.1.2.1 b))
      by_cases eb : b = aC A 0 0
      · rw [if_pos eb, eb]; exact w1
      · rw [if_neg eb, e2 _ _ (by omega)]
        exact k1.2.1 b (by show b < aC A 0 0; omega)
    · rw [e2 _ _ (by omega)]; exact k6.1
    · rw [e2 _ _ (by omega)]; exact k6.2
    · rw [e _ _ (by omega)]; exact k7
    · rw [e _ _ (by omega)]; exact k8.1
    · rw [e _ _ (by omega)]; exact k8.2
    · rw [e _ _ (by omega)]; exact k10 j hj
set_option maxRecDepth 20000 in
theorem X_far {σ : qSg} {A : zA} (hA : zXA σ A) (hW : zAW A) (a b : Int32) : qCI 3 168 [qr 0, qi a, qi b] σ (zXCall σ (yFar A a b)) := by
  have hX := hA.x
  have hw := hW.w
  have wb := hw.1
  refine qCI.of [some (qr 0), some (qi a), some (qi b)] ok_168 (Nat.le_of_ble_eq_true rfl) rfl ?_
  have no : (zrg a (aC A 0 0) && zrg b (aC A 0 0)) = false → qV 168 3 (.inl (zXCall σ (yFar A a b))) 22 [some (qr 0), some (qi a), some (qi b)] [] σ := by
    intro hz
    refine qV.go 30 [9999] ok_168 ?_
    simp only [qW_nop, qW_iconst, qW_iloadn, qW_aloadn, qW_ifeq, qW_ifne, qW_getf, qW_cv2_0, qW_cv3_0, qW_iret0, Nat.reduceAdd, Nat.reduceMul, Nat.reduceBEq, Nat.reduceEqDiff, Nat.reduceLT, Nat.reduceLeDiff, Nat.zero_le, nI_add, nI_mul, nI_cl, qin_eq, qofI, qlg_0, qlg_s, qls_i0, qls_r0, qls_l0, qls_1, qls_2, qkl_i, qkl_r, qkl_l, qkl_n, qIsI_i, qIsL_l, qIsR_r, qint_i, qil_i, qil_r, qil_l, qf4_0, qf4_1, qf4_2, qf4_3, qf2_0, qf2_1, qcs_n, qcs_i, qcs_r, qcs_l, qst_n, qst_c, qJ_0, qJ_st, qJ_go, qfl_I, qfl_Z, qfl_L, qfl_R, qrI_i, qrL_l, qrV_v, qRcv_0, qRcv_s, eq_self, true_and, and_true, true_or, or_true, false_and, and_false, false_or, or_false, ite_true, if_true, if_false, Bool.true_or, Bool.false_or, Bool.or_false, beq_self_eq_true, Bool.false_eq_true, bX11_far_0, bX11_far_22, bX11_far_28, kX11_far_0, kX11_far_22, kX11_far_28, qK_0, qR_0_0, qK_1, qR_0_1, qK_13, qR_0_2, qK_25, qR_0_3, qK_40, qR_0_4, qK_41, qR_0_5, qK_45, qR_0_6, qK_46, qR_0_7, qK_50, qR_0_8, qK_53, qR_0_9, qK_66, qR_0_10, qK_74, qR_0_11, qK_80, qR_0_12, qK_82, qR_0_14, qK_83, qR_0_15, qK_84]
    exact g_no hA hW zCls.rf (by decide) (by unfold yFar; rw [if_pos hz]; rfl)
  refine qV.go 30 [22] ok_168 ?_
  simp only [qW_nop, qW_iconst, qW_iloadn, qW_aloadn, qW_ifeq, qW_ifne, qW_getf, qW_cv2_0, qW_cv3_0, qW_iret0, Nat.reduceAdd, Nat.reduceMul, Nat.reduceBEq, Nat.reduceEqDiff, Nat.reduceLT, Nat.reduceLeDiff, Nat.zero_le, nI_add, nI_mul, nI_cl, qin_eq, qofI, qlg_0, qlg_s, qls_i0, qls_r0, qls_l0, qls_1, qls_2, qkl_i, qkl_r, qkl_l, qkl_n, qIsI_i, qIsL_l, qIsR_r, qint_i, qil_i, qil_r, qil_l, qf4_0, qf4_1, qf4_2, qf4_3, qf2_0, qf2_1, qcs_n, qcs_i, qcs_r, qcs_l, qst_n, qst_c, qJ_0, qJ_st, qJ_go, qfl_I, qfl_Z, qfl_L, qfl_R, qrI_i, qrL_l, qrV_v, qRcv_0, qRcv_s, eq_self, true_and, and_true, true_or, or_true, false_and, and_false, false_or, or_false, ite_true, if_true, if_false, Bool.true_or, Bool.false_or, Bool.or_false, beq_self_eq_true, Bool.false_eq_true, bX11_far_0, bX11_far_22, bX11_far_28, kX11_far_0, kX11_far_22, kX11_far_28, qK_0, qR_0_0, qK_1, qR_0_1, qK_13, qR_0_2, qK_25, qR_0_3, qK_40, qR_0_4, qK_41, qR_0_5, qK_45, qR_0_6, qK_46, qR_0_7, qK_50, qR_0_8, qK_53, qR_0_9, qK_66, qR_0_10, qK_74, qR_0_11, qK_80, qR_0_12, qK_82, qR_0_14, qK_83, qR_0_15, qK_84, qK_1, qR_1_6, qK_2, qR_1_7, qK_3, qR_1_8, qK_4, qR_1_9, qK_5, qR_1_10, qK_6, qR_1_11, qK_7, qR_1_12, qK_8, qR_1_13, qK_9, qR_1_14, qK_10, qR_1_15, qK_11, qR_1_16, qK_12]
  refine qBI.fn (x_hasBoy zCb_n hX.1 hw a) (by decide) ?_
  simp (disch := omega) only [nI_leI, nI_ltI, nI_eq, nI_cl, qin_eq, nI_add, nI_mul, qb_z, qb_t, qb_f, nI_ne0', Nat.reduceAdd, Bool.false_eq_true, if_false, if_true, true_and, and_true, Nat.reduceEqDiff, not_true_eq_false, not_false_eq_true, false_implies, true_implies, ite_true, ite_false, Bool.not_eq_false, Bool.not_eq_true]
  refine ⟨fun h1 => no (by rw [h1]; rfl), fun h1 => ?_⟩
  refine qBI.fn (x_hasBoy zCb_n hX.1 hw b) (by decide) ?_
  simp (disch := omega) only [nI_leI, nI_ltI, nI_eq, nI_cl, qin_eq, nI_add, nI_mul, qb_z, qb_t, qb_f, nI_ne0', Nat.reduceAdd, Bool.false_eq_true, if_false, if_true, true_and, and_true, Nat.reduceEqDiff, not_true_eq_false, not_false_eq_true, false_implies, true_implies, ite_true, ite_false, Bool.not_eq_false, Bool.not_eq_true]
  refine And.symm ⟨fun h2 => no (by rw [h2, Bool.and_false]), fun h2 => ?_⟩
  obtain ⟨i, hi, rfl⟩ := zrg_nI h1
  obtain ⟨k, hk, rfl⟩ := zrg_nI h2
  refine qBI.fn (x_steps zCb_n hX.1 hw hi hk) (by decide) ?_
  exact g_ok hA hW zCls.rf (by decide) (by unfold yFar; rw [if_neg (by rw [h1, h2]; decide), nI_tn (by omega), nI_tn (by omega)]; rfl)
set_option maxRecDepth 20000 in
theorem X_near {σ : qSg} {A : zA} (hA : zXA σ A) (hW : zAW A) (b : Int32) : qCI 2 170 [qr 0, qi b] σ (zXCall σ (yNear A b)) := by
  have hX := hA.x
  have hw := hW.w
  have wb := hw.1
  refine qCI.of [some (qr 0), some (qi b)] ok_170 (Nat.le_of_ble_eq_true rfl) rfl ?_
  refine qV.go 30 [9999] ok_170 ?_
  simp only [qW_nop, qW_iconst, qW_iloadn, qW_aloadn, qW_ifne, qW_getf, qW_iald, qW_cv2_0, qW_iret0, Nat.reduceAdd, Nat.reduceMul, Nat.reduceBEq, Nat.reduceEqDiff, Nat.reduceLT, Nat.reduceLeDiff, Nat.zero_le, nI_add, nI_mul, nI_cl, qin_eq, qofI, qlg_0, qlg_s, qls_i0, qls_r0, qls_l0, qls_1, qls_2, qkl_i, qkl_r, qkl_l, qkl_n, qIsI_i, qIsL_l, qIsR_r, qint_i, qil_i, qil_r, qil_l, qf4_0, qf4_1, qf4_2, qf4_3, qf2_0, qf2_1, qcs_n, qcs_i, qcs_r, qcs_l, qst_n, qst_c, qJ_0, qJ_st, qJ_go, qfl_I, qfl_Z, qfl_L, qfl_R, qrI_i, qrL_l, qrV_v, qRcv_0, qRcv_s, eq_self, true_and, and_true, true_or, or_true, false_and, and_false, false_or, or_false, ite_true, if_true, if_false, Bool.true_or, Bool.false_or, Bool.or_false, beq_self_eq_true, Bool.false_eq_true, bX11_near_0, bX11_near_17, kX11_near_0, kX11_near_17, qK_0, qR_0_0, qK_1, qR_0_1, qK_13, qR_0_2, qK_25, qR_0_3, qK_40, qR_0_4, qK_41, qR_0_5, qK_45, qR_0_6, qK_46, qR_0_7, qK_50, qR_0_8, qK_53, qR_0_9, qK_66, qR_0_10, qK_74, qR_0_11, qK_80, qR_0_12, qK_82, qR_0_14, qK_83, qR_0_15, qK_84, qK_1, qR_1_6, qK_2, qR_1_7, qK_3, qR_1_8, qK_4, qR_1_9, qK_5, qR_1_10, qK_6, qR_1_11, qK_7, qR_1_12, qK_8, qR_1_13, qK_9, qR_1_14, qK_10, qR_1_15, qK_11, qR_1_16, qK_12]
  refine qBI.fn (x_hasBoy zCb_n hX.1 hw b) (by decide) ?_
  simp (disch := omega) only [nI_leI, nI_ltI, nI_eq, nI_cl, qin_eq, nI_add, nI_mul, qb_z, qb_t, qb_f, nI_ne0', Nat.reduceAdd, Bool.false_eq_true, if_false, if_true, true_and, and_true, Nat.reduceEqDiff, not_true_eq_false, not_false_eq_true, false_implies, true_implies, ite_true, ite_false, Bool.not_eq_false, Bool.not_eq_true]
  refine And.symm ⟨fun e => ?_, fun hb => ?_⟩
  · exact g_no hA hW zCls.rf (by decide) (by unfold yNear; rw [if_pos e]; rfl)
  obtain ⟨i, hi, rfl⟩ := zrg_nI hb
  have e8 : σ.1 8 i = nI (znear (aC A) i) := hX.2 i hi
  simp (disch := omega) only [nI_leI, nI_ltI, nI_eq, nI_cl, qin_eq, nI_add, nI_mul, qb_z, qb_t, qb_f, nI_ne0', Nat.reduceAdd, Bool.false_eq_true, if_false, if_true, true_and, and_true, Nat.reduceEqDiff, not_true_eq_false, not_false_eq_true, false_implies, true_implies, ite_true, ite_false]
  rw [e8]
  exact g_ok hA hW zCls.rf (by decide) (by unfold yNear; rw [if_neg (by rw [hb]; decide), nI_tn (by omega)]; rfl)
set_option maxRecDepth 20000 in
theorem X_hears {σ : qSg} {A : zA} (hA : zXA σ A) (hW : zAW A) (b : Int32) : qCI 2 169 [qr 0, qi b] σ (zXCall σ (yHears A b)) := by
  have hX := hA.x
  have hw := hW.w
  have wb := hw.1
  refine qCI.of [some (qr 0), some (qi b)] ok_169 (Nat.le_of_ble_eq_true rfl) rfl ?_
  refine qV.go 30 [9999] ok_169 ?_
  simp only [qW_nop, qW_iconst, qW_iloadn, qW_aloadn, qW_iand, qW_ifne, qW_getf, qW_iald, qW_cv1_0, qW_cv2_0, qW_iret0, Nat.reduceAdd, Nat.reduceMul, Nat.reduceBEq, Nat.reduceEqDiff, Nat.reduceLT, Nat.reduceLeDiff, Nat.zero_le, nI_add, nI_mul, nI_cl, qin_eq, qofI, qlg_0, qlg_s, qls_i0, qls_r0, qls_l0, qls_1, qls_2, qkl_i, qkl_r, qkl_l, qkl_n, qIsI_i, qIsL_l, qIsR_r, qint_i, qil_i, qil_r, qil_l, qf4_0, qf4_1, qf4_2, qf4_3, qf2_0, qf2_1, qcs_n, qcs_i, qcs_r, qcs_l, qst_n, qst_c, qJ_0, qJ_st, qJ_go, qfl_I, qfl_Z, qfl_L, qfl_R, qrI_i, qrL_l, qrV_v, qRcv_0, qRcv_s, eq_self, true_and, and_true, true_or, or_true, false_and, and_false, false_or, or_false, ite_true, if_true, if_false, Bool.true_or, Bool.false_or, Bool.or_false, beq_self_eq_true, Bool.false_eq_true, bX11_hears_0, bX11_hears_17, kX11_hears_0, kX11_hears_17, qK_0, qR_0_0, qK_1, qR_0_1, qK_13, qR_0_2, qK_25, qR_0_3, qK_40, qR_0_4, qK_41, qR_0_5, qK_45, qR_0_6, qK_46, qR_0_7, qK_50, qR_0_8, qK_53, qR_0_9, qK_66, qR_0_10, qK_74, qR_0_11, qK_80, qR_0_12, qK_82, qR_0_14, qK_83, qR_0_15, qK_84, qK_1, qR_1_6, qK_2, qR_1_7, qK_3, qR_1_8, qK_4, qR_1_9, qK_5, qR_1_10, qK_6, qR_1_11, qK_7, qR_1_12, qK_8, qR_1_13, qK_9, qR_1_14, qK_10, qR_1_15, qK_11, qR_1_16, qK_12]
  refine qBI.fn (x_hasBoy zCb_n hX.1 hw b) (by decide) ?_
  simp (disch := omega) only [nI_leI, nI_ltI, nI_eq, nI_cl, qin_eq, nI_add, nI_mul, qb_z, qb_t, qb_f, nI_ne0', Nat.reduceAdd, Bool.false_eq_true, if_false, if_true, true_and, and_true, Nat.reduceEqDiff, not_true_eq_false, not_false_eq_true, false_implies, true_implies, ite_true, ite_false, Bool.not_eq_false, Bool.not_eq_true]
  refine And.symm ⟨fun e => ?_, fun hb => ?_⟩
  · exact g_no hA hW zCls.rf (by decide) (by unfold yHears; rw [if_pos e]; rfl)
  obtain ⟨i, hi, rfl⟩ := zrg_nI hb
  have e8 : σ.1 8 i = nI (znear (aC A) i) := hX.2 i hi
  simp (disch := omega) only [nI_leI, nI_ltI, nI_eq, nI_cl, qin_eq, nI_add, nI_mul, qb_z, qb_t, qb_f, nI_ne0', Nat.reduceAdd, Bool.false_eq_true, if_false, if_true, true_and, and_true, Nat.reduceEqDiff, not_true_eq_false, not_false_eq_true, false_implies, true_implies, ite_true, ite_false]
  rw [e8]
  refine qBI.fn (x_upSet zCb_n hX.1 hw) (by decide) ?_
  rw [nI_and]
  exact g_ok hA hW zCls.rf (by decide) (by unfold yHears; rw [if_neg (by rw [hb]; decide), nI_tn (by omega)]; rfl)
set_option maxRecDepth 20000 in
theorem X_due {σ : qSg} {A : zA} (hA : zXA σ A) (hW : zAW A) (b q : Int32) : qCI 3 171 [qr 0, qi b, qi q] σ (zXCall σ (yDue A b q)) := by
  have hX := hA.x
  have hw := hW.w
  have wb := hw.1
  have wq := hw.2.1
  refine qCI.of [some (qr 0), some (qi b), some (qi q)] ok_171 (Nat.le_of_ble_eq_true rfl) rfl ?_
  have no : (zrg b (aC A 0 0) && zrg q (aC A 0 1)) = false → qV 171 3 (.inl (zXCall σ (yDue A b q))) 22 [some (qr 0), some (qi b), some (qi q)] [] σ := by
    intro hz
    refine qV.go 30 [9999] ok_171 ?_
    simp only [qW_nop, qW_iconst, qW_bipush, qW_iloadn, qW_aloadn, qW_ifeq, qW_iceq, qW_ifne, qW_getf, qW_iald, qW_cv1_0, qW_cv2_0, qW_cv4_0, qW_iret0, Nat.reduceAdd, Nat.reduceMul, Nat.reduceBEq, Nat.reduceEqDiff, Nat.reduceLT, Nat.reduceLeDiff, Nat.zero_le, nI_add, nI_mul, nI_cl, qin_eq, qofI, qlg_0, qlg_s, qls_i0, qls_r0, qls_l0, qls_1, qls_2, qkl_i, qkl_r, qkl_l, qkl_n, qIsI_i, qIsL_l, qIsR_r, qint_i, qil_i, qil_r, qil_l, qf4_0, qf4_1, qf4_2, qf4_3, qf2_0, qf2_1, qcs_n, qcs_i, qcs_r, qcs_l, qst_n, qst_c, qJ_0, qJ_st, qJ_go, qfl_I, qfl_Z, qfl_L, qfl_R, qrI_i, qrL_l, qrV_v, qRcv_0, qRcv_s, eq_self, true_and, and_true, true_or, or_true, false_and, and_false, false_or, or_false, ite_true, if_true, if_false, Bool.true_or, Bool.false_or, Bool.or_false, beq_self_eq_true, Bool.false_eq_true, bX11_due_0, bX11_due_22, bX11_due_28, bX11_due_61, bX11_due_79, kX11_due_0, kX11_due_22, kX11_due_28, kX11_due_61, kX11_due_79, qK_0, qR_0_0, qK_1, qR_0_1, qK_13, qR_0_2, qK_25, qR_0_3, qK_40, qR_0_4, qK_41, qR_0_5, qK_45, qR_0_6, qK_46, qR_0_7, qK_50, qR_0_8, qK_53, qR_0_9, qK_66, qR_0_10, qK_74, qR_0_11, qK_80, qR_0_12, qK_82, qR_0_14, qK_83, qR_0_15, qK_84]
    exact g_no hA hW zCls.rf (by decide) (by unfold yDue; rw [if_pos hz]; rfl)
  refine qV.go 30 [22, 28] ok_171 ?_
  simp only [qW_nop, qW_iconst, qW_bipush, qW_iloadn, qW_aloadn, qW_ifeq, qW_iceq, qW_ifne, qW_getf, qW_iald, qW_cv1_0, qW_cv2_0, qW_cv4_0, qW_iret0, Nat.reduceAdd, Nat.reduceMul, Nat.reduceBEq, Nat.reduceEqDiff, Nat.reduceLT, Nat.reduceLeDiff, Nat.zero_le, nI_add, nI_mul, nI_cl, qin_eq, qofI, qlg_0, qlg_s, qls_i0, qls_r0, qls_l0, qls_1, qls_2, qkl_i, qkl_r, qkl_l, qkl_n, qIsI_i, qIsL_l, qIsR_r, qint_i, qil_i, qil_r, qil_l, qf4_0, qf4_1, qf4_2, qf4_3, qf2_0, qf2_1, qcs_n, qcs_i, qcs_r, qcs_l, qst_n, qst_c, qJ_0, qJ_st, qJ_go, qfl_I, qfl_Z, qfl_L, qfl_R, qrI_i, qrL_l, qrV_v, qRcv_0, qRcv_s, eq_self, true_and, and_true, true_or, or_true, false_and, and_false, false_or, or_false, ite_true, if_true, if_false, Bool.true_or, Bool.false_or, Bool.or_false, beq_self_eq_true, Bool.false_eq_true, bX11_due_0, bX11_due_22, bX11_due_28, bX11_due_61, bX11_due_79, kX11_due_0, kX11_due_22, kX11_due_28, kX11_due_61, kX11_due_79, qK_0, qR_0_0, qK_1, qR_0_1, qK_13, qR_0_2, qK_25, qR_0_3, qK_40, qR_0_4, qK_41, qR_0_5, qK_45, qR_0_6, qK_46, qR_0_7, qK_50, qR_0_8, qK_53, qR_0_9, qK_66, qR_0_10, qK_74, qR_0_11, qK_80, qR_0_12, qK_82, qR_0_14, qK_83, qR_0_15, qK_84, qK_1, qR_1_6, qK_2, qR_1_7, qK_3, qR_1_8, qK_4, qR_1_9, qK_5, qR_1_10, qK_6, qR_1_11, qK_7, qR_1_12, qK_8, qR_1_13, qK_9, qR_1_14, qK_10, qR_1_15, qK_11, qR_1_16, qK_12]
  refine qBI.fn (x_hasBoy zCb_n hX.1 hw b) (by decide) ?_
  simp (disch := omega) only [nI_leI, nI_ltI, nI_eq, nI_cl, qin_eq, nI_add, nI_mul, qb_z, qb_t, qb_f, nI_ne0', Nat.reduceAdd, Bool.false_eq_true, if_false, if_true, true_and, and_true, Nat.reduceEqDiff, not_true_eq_false, not_false_eq_true, false_implies, true_implies, ite_true, ite_false, Bool.not_eq_false, Bool.not_eq_true]
  refine ⟨fun h1 => no (by rw [h1]; rfl), fun h1 => ?_⟩
  refine qBI.fn (x_hasQuarrel zCb_n hX.1 hw q) (by decide) ?_
  simp (disch := omega) only [nI_leI, nI_ltI, nI_eq, nI_cl, qin_eq, nI_add, nI_mul, qb_z, qb_t, qb_f, nI_ne0', Nat.reduceAdd, Bool.false_eq_true, if_false, if_true, true_and, and_true, Nat.reduceEqDiff, not_true_eq_false, not_false_eq_true, false_implies, true_implies, ite_true, ite_false, Bool.not_eq_false, Bool.not_eq_true]
  refine And.symm ⟨fun h2 => no (by rw [h2, Bool.and_false]), fun h2 => ?_⟩
  obtain ⟨i, hi, rfl⟩ := zrg_nI h1
  obtain ⟨k, hk, rfl⟩ := zrg_nI h2
  have eY : yDue A (nI i) (nI k) = if zin (aC A) k i = false then yNo A 6 else if zOpen (aC A) k = false then yNo A 7 else yOk A (iI (zdue (aC A) i k (zups (aC A)))) := by
    unfold yDue
    rw [if_neg (by rw [h1, h2]; decide), nI_tn (by omega), nI_tn (by omega)]
  rw [eY]
  have gq := hw.2.2.2.2.2.2.2.2.2 k hk
  have e9 : σ.1 9 k = nI (aC A 6 k) := hX.1.fi hk
  have e10 : σ.1 10 k = nI (aC A 7 k) := hX.1.se hk
  have on : zin (aC A) k i = true → qV 171 3 (.inl (zXCall σ (if zin (aC A) k i = false then yNo A 6 else if zOpen (aC A) k = false then yNo A 7 else yOk A (iI (zdue (aC A) i k (zups (aC A))))))) 61 [some (qr 0), some (qi (nI i)), some (qi (nI k))] [] σ := by
    intro hz
    rw [if_neg (by rw [hz]; decide)]
    refine qV.go 30 [9999] ok_171 ?_
    simp only [qW_nop, qW_iconst, qW_bipush, qW_iloadn, qW_aloadn, qW_ifeq, qW_iceq, qW_ifne, qW_getf, qW_iald, qW_cv1_0, qW_cv2_0, qW_cv4_0, qW_iret0, Nat.reduceAdd, Nat.reduceMul, Nat.reduceBEq, Nat.reduceEqDiff, Nat.reduceLT, Nat.reduceLeDiff, Nat.zero_le, nI_add, nI_mul, nI_cl, qin_eq, qofI, qlg_0, qlg_s, qls_i0, qls_r0, qls_l0, qls_1, qls_2, qkl_i, qkl_r, qkl_l, qkl_n, qIsI_i, qIsL_l, qIsR_r, qint_i, qil_i, qil_r, qil_l, qf4_0, qf4_1, qf4_2, qf4_3, qf2_0, qf2_1, qcs_n, qcs_i, qcs_r, qcs_l, qst_n, qst_c, qJ_0, qJ_st, qJ_go, qfl_I, qfl_Z, qfl_L, qfl_R, qrI_i, qrL_l, qrV_v, qRcv_0, qRcv_s, eq_self, true_and, and_true, true_or, or_true, false_and, and_false, false_or, or_false, ite_true, if_true, if_false, Bool.true_or, Bool.false_or, Bool.or_false, beq_self_eq_true, Bool.false_eq_true, bX11_due_0, bX11_due_22, bX11_due_28, bX11_due_61, bX11_due_79, kX11_due_0, kX11_due_22, kX11_due_28, kX11_due_61, kX11_due_79, qK_0, qR_0_0, qK_1, qR_0_1, qK_13, qR_0_2, qK_25, qR_0_3, qK_40, qR_0_4, qK_41, qR_0_5, qK_45, qR_0_6, qK_46, qR_0_7, qK_50, qR_0_8, qK_53, qR_0_9, qK_66, qR_0_10, qK_74, qR_0_11, qK_80, qR_0_12, qK_82, qR_0_14, qK_83, qR_0_15, qK_84, qK_1, qR_1_6, qK_2, qR_1_7, qK_3, qR_1_8, qK_4, qR_1_9, qK_5, qR_1_10, qK_6, qR_1_11, qK_7, qR_1_12, qK_8, qR_1_13, qK_9, qR_1_14, qK_10, qR_1_15, qK_11, qR_1_16, qK_12]
    refine qBI.fn (x_isOpen zCb_n hX.1 hw hk) (by decide) ?_
    simp (disch := omega) only [nI_leI, nI_ltI, nI_eq, nI_cl, qin_eq, nI_add, nI_mul, qb_z, qb_t, qb_f, nI_ne0', Nat.reduceAdd, Bool.false_eq_true, if_false, if_true, true_and, and_true, Nat.reduceEqDiff, not_true_eq_false, not_false_eq_true, false_implies, true_implies, ite_true, ite_false, Bool.not_eq_false, Bool.not_eq_true]
    refine And.symm ⟨fun h3 => ?_, fun h3 => ?_⟩
    · rw [if_pos h3]
      exact g_no hA hW zCls.rf (by decide) rfl
    · rw [if_neg (by rw [h3]; decide)]
      refine qBI.fn (x_upSet zCb_n hX.1 hw) (by decide) ?_
      have hu := zups_lt hw
      refine qBI.fn (x_due zCb_n hX hw hi hk (by omega)) (by decide) ?_
      exact g_ok hA hW zCls.rf (by decide) rfl
  refine qV.go 30 [61] ok_171 ?_
  simp only [qW_nop, qW_iconst, qW_bipush, qW_iloadn, qW_aloadn, qW_ifeq, qW_iceq, qW_ifne, qW_getf, qW_iald, qW_cv1_0, qW_cv2_0, qW_cv4_0, qW_iret0, Nat.reduceAdd, Nat.reduceMul, Nat.reduceBEq, Nat.reduceEqDiff, Nat.reduceLT, Nat.reduceLeDiff, Nat.zero_le, nI_add, nI_mul, nI_cl, qin_eq, qofI, qlg_0, qlg_s, qls_i0, qls_r0, qls_l0, qls_1, qls_2, qkl_i, qkl_r, qkl_l, qkl_n, qIsI_i, qIsL_l, qIsR_r, qint_i, qil_i, qil_r, qil_l, qf4_0, qf4_1, qf4_2, qf4_3, qf2_0, qf2_1, qcs_n, qcs_i, qcs_r, qcs_l, qst_n, qst_c, qJ_0, qJ_st, qJ_go, qfl_I, qfl_Z, qfl_L, qfl_R, qrI_i, qrL_l, qrV_v, qRcv_0, qRcv_s, eq_self, true_and, and_true, true_or, or_true, false_and, and_false, false_or, or_false, ite_true, if_true, if_false, Bool.true_or, Bool.false_or, Bool.or_false, beq_self_eq_true, Bool.false_eq_true, bX11_due_0, bX11_due_22, bX11_due_28, bX11_due_61, bX11_due_79, kX11_due_0, kX11_due_22, kX11_due_28, kX11_due_61, kX11_due_79, qK_0, qR_0_0, qK_1, qR_0_1, qK_13, qR_0_2, qK_25, qR_0_3, qK_40, qR_0_4, qK_41, qR_0_5, qK_45, qR_0_6, qK_46, qR_0_7, qK_50, qR_0_8, qK_53, qR_0_9, qK_66, qR_0_10, qK_74, qR_0_11, qK_80, qR_0_12, qK_82, qR_0_14, qK_83, qR_0_15, qK_84, qK_1, qR_1_6, qK_2, qR_1_7, qK_3, qR_1_8, qK_4, qR_1_9, qK_5, qR_1_10, qK_6, qR_1_11, qK_7, qR_1_12, qK_8, qR_1_13, qK_9, qR_1_14, qK_10, qR_1_15, qK_11, qR_1_16, qK_12]
  simp (disch := omega) only [nI_leI, nI_ltI, nI_eq, nI_cl, qin_eq, nI_add, nI_mul, qb_z, qb_t, qb_f, nI_ne0', Nat.reduceAdd, Bool.false_eq_true, if_false, if_true, true_and, and_true, Nat.reduceEqDiff, not_true_eq_false, not_false_eq_true, false_implies, true_implies, ite_true, ite_false]
  rw [e9, e10]
  simp (disch := omega) only [nI_leI, nI_ltI, nI_eq, nI_cl, qin_eq, nI_add, nI_mul, qb_z, qb_t, qb_f, nI_ne0', Nat.reduceAdd, Bool.false_eq_true, if_false, if_true, true_and, and_true, Nat.reduceEqDiff, not_true_eq_false, not_false_eq_true, false_implies, true_implies, ite_true, ite_false]
  unfold zin at on
  refine ⟨fun h3 => on (by rw [decide_eq_true h3]; rfl), fun h3 => ⟨fun h4 => on (by rw [decide_eq_true h4, Bool.or_true]), fun h4 => ?_⟩⟩
  rw [if_pos (by unfold zin; rw [decide_eq_false h3, decide_eq_false h4]; rfl)]
  exact g_no hA hW zCls.rf (by decide) rfl
-- a look ahead leaves the state
theorem zXA.pl {σ σ' : qSg} {A : zA} {P R : Nat → Nat → Prop} (h : zXA σ A) (hW : zAW A) (f : zG P R σ σ') (hP : ∀ a j, P a j → a < 139 ∧ ¬ zXp1 a j) (hR : ∀ a j, R a j → a < 139 ∧ ¬ zXp2 a j) : zXA σ' A ∧ zCls σ σ' :=
  ⟨h.sm hW (zXsm.g f (fun a j hp => (hP a j hp).2) (fun a j hp => (hR a j hp).2)), zCls.g f (fun a j hp => (hP a j hp).1) (fun a j hp => (hR a j hp).1)⟩
theorem zPlk_k (a j : Nat) (h : zPlk a j) : a < 139 ∧ ¬ zXp1 a j := by unfold zPlk at h; unfold zXp1; omega
theorem z27_k (a j : Nat) (h : (fun a _ => a = 27) a j) : a < 139 ∧ ¬ zXp2 a j := by
  have h : a = 27 := h
  unfold zXp2
  omega
set_option maxRecDepth 20000 in
theorem X_upIn {σ : qSg} {A : zA} (hA : zXA σ A) (hW : zAW A) (b : Int32) : qCI 5 172 [qr 0, qi b] σ (zXCall σ (yUpIn A b)) := by
  have hX := hA.x
  have hw := hW.w
  have wb := hw.1
  have h5 : aC A 0 5 ≤ 9999 := hW.1.2.1
  refine qCI.of [some (qr 0), some (qi b)] ok_172 (Nat.le_of_ble_eq_true rfl) rfl ?_
  refine qV.go 30 [9999] ok_172 ?_
  simp only [qW_nop, qW_iconst, qW_iloadn, qW_aloadn, qW_pop, qW_ifne, qW_getf, qW_iald, qW_cv2_0, qW_iret0, Nat.reduceAdd, Nat.reduceMul, Nat.reduceBEq, Nat.reduceEqDiff, Nat.reduceLT, Nat.reduceLeDiff, Nat.zero_le, nI_add, nI_mul, nI_cl, qin_eq, qofI, qlg_0, qlg_s, qls_i0, qls_r0, qls_l0, qls_1, qls_2, qkl_i, qkl_r, qkl_l, qkl_n, qIsI_i, qIsL_l, qIsR_r, qint_i, qil_i, qil_r, qil_l, qf4_0, qf4_1, qf4_2, qf4_3, qf2_0, qf2_1, qcs_n, qcs_i, qcs_r, qcs_l, qst_n, qst_c, qJ_0, qJ_st, qJ_go, qfl_I, qfl_Z, qfl_L, qfl_R, qrI_i, qrL_l, qrV_v, qRcv_0, qRcv_s, eq_self, true_and, and_true, true_or, or_true, false_and, and_false, false_or, or_false, ite_true, if_true, if_false, Bool.true_or, Bool.false_or, Bool.or_false, beq_self_eq_true, Bool.false_eq_true, bX11_upIn_0, bX11_upIn_17, kX11_upIn_0, kX11_upIn_17, qK_0, qR_0_0, qK_1, qR_0_1, qK_13, qR_0_2, qK_25, qR_0_3, qK_40, qR_0_4, qK_41, qR_0_5, qK_45, qR_0_6, qK_46, qR_0_7, qK_50, qR_0_8, qK_53, qR_0_9, qK_66, qR_0_10, qK_74, qR_0_11, qK_80, qR_0_12, qK_82, qR_0_14, qK_83, qR_0_15, qK_84, qK_1, qR_1_6, qK_2, qR_1_7, qK_3, qR_1_8, qK_4, qR_1_9, qK_5, qR_1_10, qK_6, qR_1_11, qK_7, qR_1_12, qK_8, qR_1_13, qK_9, qR_1_14, qK_10, qR_1_15, qK_11, qR_1_16, qK_12, qK_25, qR_25_0, qK_26, qR_25_1, qK_38, qR_25_2, qK_39]
  refine qBI.fn (x_hasBoy zCb_n hX.1 hw b) (by decide) ?_
  simp (disch := omega) only [nI_leI, nI_ltI, nI_eq, nI_cl, qin_eq, nI_add, nI_mul, qb_z, qb_t, qb_f, nI_ne0', Nat.reduceAdd, Bool.false_eq_true, if_false, if_true, true_and, and_true, Nat.reduceEqDiff, not_true_eq_false, not_false_eq_true, false_implies, true_implies, ite_true, ite_false, Bool.not_eq_false, Bool.not_eq_true]
  refine And.symm ⟨fun e => ?_, fun hb => ?_⟩
  · exact g_no hA hW zCls.rf (by decide) (by unfold yUpIn; rw [if_pos e]; rfl)
  obtain ⟨i, hi, rfl⟩ := zrg_nI hb
  refine qBI.of (x_look zCb_n (by decide) hX hw (by omega)) (by decide) (fun v σ1 g1 => ?_)
  obtain ⟨-, -, u1, -, -, f1⟩ := g1
  obtain ⟨hA1, c1⟩ := hA.pl hW f1 zPlk_k z27_k
  simp (disch := omega) only [nI_leI, nI_ltI, nI_eq, nI_cl, qin_eq, nI_add, nI_mul, qb_z, qb_t, qb_f, nI_ne0', Nat.reduceAdd, Bool.false_eq_true, if_false, if_true, true_and, and_true, Nat.reduceEqDiff, not_true_eq_false, not_false_eq_true, false_implies, true_implies, ite_true, ite_false]
  rw [u1 i hi]
  exact g_ok hA1 hW c1 (by decide) (by unfold yUpIn; rw [if_neg (by rw [hb]; decide), nI_tn (by omega)]; rfl)
set_option maxRecDepth 20000 in
theorem X_upBy {σ : qSg} {A : zA} (hA : zXA σ A) (hW : zAW A) (n : Int32) : qCI 5 173 [qr 0, qi n] σ (zXCall σ (yUpBy A n)) := by
  have hX := hA.x
  have hw := hW.w
  have h5 : aC A 0 5 ≤ 9999 := hW.1.2.1
  refine qCI.of [some (qr 0), some (qi n)] ok_173 (Nat.le_of_ble_eq_true rfl) rfl ?_
  refine qV.go 30 [9999] ok_173 ?_
  simp only [qW_nop, qW_iconst, qW_ldc2, qW_lconst, qW_iloadn, qW_aloadn, qW_i2l, qW_pop, qW_ifne, qW_getf, qW_cs3_0, qW_cv2_0, qW_iret0, Nat.reduceAdd, Nat.reduceMul, Nat.reduceBEq, Nat.reduceEqDiff, Nat.reduceLT, Nat.reduceLeDiff, Nat.zero_le, nI_add, nI_mul, nI_cl, qin_eq, qofI, qlg_0, qlg_s, qls_i0, qls_r0, qls_l0, qls_1, qls_2, qkl_i, qkl_r, qkl_l, qkl_n, qIsI_i, qIsL_l, qIsR_r, qint_i, qil_i, qil_r, qil_l, qf4_0, qf4_1, qf4_2, qf4_3, qf2_0, qf2_1, qcs_n, qcs_i, qcs_r, qcs_l, qst_n, qst_c, qJ_0, qJ_st, qJ_go, qfl_I, qfl_Z, qfl_L, qfl_R, qrI_i, qrL_l, qrV_v, qRcv_0, qRcv_s, eq_self, true_and, and_true, true_or, or_true, false_and, and_false, false_or, or_false, ite_true, if_true, if_false, Bool.true_or, Bool.false_or, Bool.or_false, beq_self_eq_true, Bool.false_eq_true, bX11_upBy_0, bX11_upBy_18, kX11_upBy_0, kX11_upBy_18, qK_0, qR_0_0, qK_1, qR_0_1, qK_13, qR_0_2, qK_25, qR_0_3, qK_40, qR_0_4, qK_41, qR_0_5, qK_45, qR_0_6, qK_46, qR_0_7, qK_50, qR_0_8, qK_53, qR_0_9, qK_66, qR_0_10, qK_74, qR_0_11, qK_80, qR_0_12, qK_82, qR_0_14, qK_83, qR_0_15, qK_84, qK_1, qR_1_6, qK_2, qR_1_7, qK_3, qR_1_8, qK_4, qR_1_9, qK_5, qR_1_10, qK_6, qR_1_11, qK_7, qR_1_12, qK_8, qR_1_13, qK_9, qR_1_14, qK_10, qR_1_15, qK_11, qR_1_16, qK_12, qK_25, qR_25_0, qK_26, qR_25_1, qK_38, qR_25_2, qK_39]
  refine qBI.fn (x_withinI σ n (lo := 0) (hi := 200) (by decide) (by decide)) (by decide) ?_
  simp (disch := omega) only [nI_leI, nI_ltI, nI_eq, nI_cl, qin_eq, nI_add, nI_mul, qb_z, qb_t, qb_f, nI_ne0', Nat.reduceAdd, Bool.false_eq_true, if_false, if_true, true_and, and_true, Nat.reduceEqDiff, not_true_eq_false, not_false_eq_true, false_implies, true_implies, ite_true, ite_false, Bool.not_eq_false, Bool.not_eq_true]
  refine And.symm ⟨fun e => ?_, fun hb => ?_⟩
  · exact g_no hA hW zCls.rf (by decide) (by unfold yUpBy; rw [if_pos e]; rfl)
  obtain ⟨i, -, hi, rfl⟩ := zih_nI hb
  refine qBI.of (x_look zCb_n (by decide) hX hw (by omega)) (by decide) (fun v σ1 g1 => ?_)
  obtain ⟨-, X1, u1, -, -, f1⟩ := g1
  obtain ⟨hA1, c1⟩ := hA.pl hW f1 zPlk_k z27_k
  have e4 : σ1.1 26 4 = nI (aC A 0 0) := by rw [X1.1.b, zit_q _ _ _ (by decide) (by decide) (by decide)]
  refine qBI.fn (x_upWithin hw (by omega) e4 u1 hi) (by decide) ?_
  exact g_ok hA1 hW c1 (by decide) (by unfold yUpBy; rw [if_neg (by rw [hb]; decide), nI_tn (by omega)]; rfl)
set_option maxRecDepth 20000 in
theorem X_breakfast {σ : qSg} {A : zA} (hA : zXA σ A) (hW : zAW A) : qCI 5 174 [qr 0] σ (zXCall σ (yBreakfast A)) := by
  have h5 : aC A 0 5 ≤ 9999 := hW.1.2.1
  refine qCI.of [some (qr 0)] ok_174 (Nat.le_of_ble_eq_true rfl) rfl ?_
  refine qV.go 30 [9999] ok_174 ?_
  simp only [qW_nop, qW_aloadn, qW_getf, qW_cv2_0, qW_iret0, Nat.reduceAdd, Nat.reduceMul, Nat.reduceBEq, Nat.reduceEqDiff, Nat.reduceLT, Nat.reduceLeDiff, Nat.zero_le, nI_add, nI_mul, nI_cl, qin_eq, qofI, qlg_0, qlg_s, qls_i0, qls_r0, qls_l0, qls_1, qls_2, qkl_i, qkl_r, qkl_l, qkl_n, qIsI_i, qIsL_l, qIsR_r, qint_i, qil_i, qil_r, qil_l, qf4_0, qf4_1, qf4_2, qf4_3, qf2_0, qf2_1, qcs_n, qcs_i, qcs_r, qcs_l, qst_n, qst_c, qJ_0, qJ_st, qJ_go, qfl_I, qfl_Z, qfl_L, qfl_R, qrI_i, qrL_l, qrV_v, qRcv_0, qRcv_s, eq_self, true_and, and_true, true_or, or_true, false_and, and_false, false_or, or_false, ite_true, if_true, if_false, Bool.true_or, Bool.false_or, Bool.or_false, beq_self_eq_true, Bool.false_eq_true, bX11_breakfast_0, kX11_breakfast_0, qK_0, qR_0_0, qK_1, qR_0_1, qK_13, qR_0_2, qK_25, qR_0_3, qK_40, qR_0_4, qK_41, qR_0_5, qK_45, qR_0_6, qK_46, qR_0_7, qK_50, qR_0_8, qK_53, qR_0_9, qK_66, qR_0_10, qK_74, qR_0_11, qK_80, qR_0_12, qK_82, qR_0_14, qK_83, qR_0_15, qK_84, qK_1, qR_1_6, qK_2, qR_1_7, qK_3, qR_1_8, qK_4, qR_1_9, qK_5, qR_1_10, qK_6, qR_1_11, qK_7, qR_1_12, qK_8, qR_1_13, qK_9, qR_1_14, qK_10, qR_1_15, qK_11, qR_1_16, qK_12, qK_25, qR_25_0, qK_26, qR_25_1, qK_38, qR_25_2, qK_39]
  refine qBI.of (x_look zCb_n (by decide) hA.x hW.w (by omega)) (by decide) (fun v σ1 g1 => ?_)
  obtain ⟨rfl, -, -, -, -, f1⟩ := g1
  obtain ⟨hA1, c1⟩ := hA.pl hW f1 zPlk_k z27_k
  exact g_ok hA1 hW c1 (by decide) rfl
set_option maxRecDepth 20000 in
theorem X_overIn {σ : qSg} {A : zA} (hA : zXA σ A) (hW : zAW A) (q : Int32) : qCI 5 175 [qr 0, qi q] σ (zXCall σ (yOverIn A q)) := by
  have hX := hA.x
  have hw := hW.w
  have wq := hw.2.1
  have h5 : aC A 0 5 ≤ 9999 := hW.1.2.1
  refine qCI.of [some (qr 0), some (qi q)] ok_175 (Nat.le_of_ble_eq_true rfl) rfl ?_
  refine qV.go 30 [9999] ok_175 ?_
  simp only [qW_nop, qW_iconst, qW_iloadn, qW_aloadn, qW_pop, qW_ifne, qW_getf, qW_iald, qW_cv2_0, qW_iret0, Nat.reduceAdd, Nat.reduceMul, Nat.reduceBEq, Nat.reduceEqDiff, Nat.reduceLT, Nat.reduceLeDiff, Nat.zero_le, nI_add, nI_mul, nI_cl, qin_eq, qofI, qlg_0, qlg_s, qls_i0, qls_r0, qls_l0, qls_1, qls_2, qkl_i, qkl_r, qkl_l, qkl_n, qIsI_i, qIsL_l, qIsR_r, qint_i, qil_i, qil_r, qil_l, qf4_0, qf4_1, qf4_2, qf4_3, qf2_0, qf2_1, qcs_n, qcs_i, qcs_r, qcs_l, qst_n, qst_c, qJ_0, qJ_st, qJ_go, qfl_I, qfl_Z, qfl_L, qfl_R, qrI_i, qrL_l, qrV_v, qRcv_0, qRcv_s, eq_self, true_and, and_true, true_or, or_true, false_and, and_false, false_or, or_false, ite_true, if_true, if_false, Bool.true_or, Bool.false_or, Bool.or_false, beq_self_eq_true, Bool.false_eq_true, bX11_overIn_0, bX11_overIn_17, kX11_overIn_0, kX11_overIn_17, qK_0, qR_0_0, qK_1, qR_0_1, qK_13, qR_0_2, qK_25, qR_0_3, qK_40, qR_0_4, qK_41, qR_0_5, qK_45, qR_0_6, qK_46, qR_0_7, qK_50, qR_0_8, qK_53, qR_0_9, qK_66, qR_0_10, qK_74, qR_0_11, qK_80, qR_0_12, qK_82, qR_0_14, qK_83, qR_0_15, qK_84, qK_1, qR_1_6, qK_2, qR_1_7, qK_3, qR_1_8, qK_4, qR_1_9, qK_5, qR_1_10, qK_6, qR_1_11, qK_7, qR_1_12, qK_8, qR_1_13, qK_9, qR_1_14, qK_10, qR_1_15, qK_11, qR_1_16, qK_12, qK_25, qR_25_0, qK_26, qR_25_1, qK_38, qR_25_2, qK_39]
  refine qBI.fn (x_hasQuarrel zCb_n hX.1 hw q) (by decide) ?_
  simp (disch := omega) only [nI_leI, nI_ltI, nI_eq, nI_cl, qin_eq, nI_add, nI_mul, qb_z, qb_t, qb_f, nI_ne0', Nat.reduceAdd, Bool.false_eq_true, if_false, if_true, true_and, and_true, Nat.reduceEqDiff, not_true_eq_false, not_false_eq_true, false_implies, true_implies, ite_true, ite_false, Bool.not_eq_false, Bool.not_eq_true]
  refine And.symm ⟨fun e => ?_, fun hb => ?_⟩
  · exact g_no hA hW zCls.rf (by decide) (by unfold yOverIn; rw [if_pos e]; rfl)
  obtain ⟨i, hi, rfl⟩ := zrg_nI hb
  refine qBI.of (x_look zCb_n (by decide) hX hw (by omega)) (by decide) (fun v σ1 g1 => ?_)
  obtain ⟨-, -, -, o1, -, f1⟩ := g1
  obtain ⟨hA1, c1⟩ := hA.pl hW f1 zPlk_k z27_k
  simp (disch := omega) only [nI_leI, nI_ltI, nI_eq, nI_cl, qin_eq, nI_add, nI_mul, qb_z, qb_t, qb_f, nI_ne0', Nat.reduceAdd, Bool.false_eq_true, if_false, if_true, true_and, and_true, Nat.reduceEqDiff, not_true_eq_false, not_false_eq_true, false_implies, true_implies, ite_true, ite_false]
  rw [o1 i hi]
  exact g_ok hA1 hW c1 (by decide) (by unfold yOverIn; rw [if_neg (by rw [hb]; decide), nI_tn (by omega)]; rfl)
theorem zbrk_all {C : zC} (hw : zW C) (hm : C 0 5 ≤ 99000) {q : Nat} (hq : q < C 0 1) : zit (zbrk C) C 9 q = zit (zover C q) C 9 q := by
  have h1 := zover_spec hw hm hq
  have hs := zupn_spec hw hm (s := 2 ^ C 0 0 - 1) (fun i hi => zall_bit hi)
  have g := hw.2.2.2.2.2.2.2.2.2 q hq
  have hne : zit (zbrk C) C 9 q ≠ 0 := by
    intro h0
    have e : zups (zit (zbrk C) C) = 2 ^ C 0 0 - 1 := by
      have h2 : zsub (2 ^ C 0 0 - 1) (zups (zit (zbrk C) C)) = true := hs.2.1
      have h3 := zups_it C (zbrk C)
      refine Nat.eq_of_testBit_eq fun i => ?_
      rw [h3, Nat.testBit_two_pow_sub_one]
      by_cases hi : i < C 0 0
      · have h4 := (zsub_iff _ _).mp h2 i (by rw [Nat.testBit_two_pow_sub_one]; simp [hi])
        rw [h3] at h4
        rw [h4]
        simp [hi]
      · simp [hi]
    have hu := zups_full' e g.1
    have e1 : (zit (zbrk C) C) 0 1 = C 0 1 := zit_q _ _ _ (by decide) (by decide) (by decide) _
    exact (zUp_iff _ _).mp hu q (by omega) (by rw [zin_it]; unfold zin; simp) h0
  have hle : zover C q ≤ zbrk C := by
    rcases Nat.lt_or_ge (zbrk C) (zover C q) with h | h
    · exact absurd (h1.2.2 _ h) hne
    · exact h
  exact zit_over hq _ _ hle h1.2.1
set_option maxRecDepth 20000 in
theorem X_yielder {σ : qSg} {A : zA} (hA : zXA σ A) (hW : zAW A) (q : Int32) : qCI 5 176 [qr 0, qi q] σ (zXCall σ (yYielder A q)) := by
  have hX := hA.x
  have hw := hW.w
  have wq := hw.2.1
  have h5 : aC A 0 5 ≤ 9999 := hW.1.2.1
  refine qCI.of [some (qr 0), some (qi q)] ok_176 (Nat.le_of_ble_eq_true rfl) rfl ?_
  refine qV.go 30 [9999] ok_176 ?_
  simp only [qW_nop, qW_iconst, qW_iloadn, qW_aloadn, qW_pop, qW_ifne, qW_getf, qW_iald, qW_cv2_0, qW_iret0, Nat.reduceAdd, Nat.reduceMul, Nat.reduceBEq, Nat.reduceEqDiff, Nat.reduceLT, Nat.reduceLeDiff, Nat.zero_le, nI_add, nI_mul, nI_cl, qin_eq, qofI, qlg_0, qlg_s, qls_i0, qls_r0, qls_l0, qls_1, qls_2, qkl_i, qkl_r, qkl_l, qkl_n, qIsI_i, qIsL_l, qIsR_r, qint_i, qil_i, qil_r, qil_l, qf4_0, qf4_1, qf4_2, qf4_3, qf2_0, qf2_1, qcs_n, qcs_i, qcs_r, qcs_l, qst_n, qst_c, qJ_0, qJ_st, qJ_go, qfl_I, qfl_Z, qfl_L, qfl_R, qrI_i, qrL_l, qrV_v, qRcv_0, qRcv_s, eq_self, true_and, and_true, true_or, or_true, false_and, and_false, false_or, or_false, ite_true, if_true, if_false, Bool.true_or, Bool.false_or, Bool.or_false, beq_self_eq_true, Bool.false_eq_true, bX11_yielder_0, bX11_yielder_17, kX11_yielder_0, kX11_yielder_17, qK_0, qR_0_0, qK_1, qR_0_1, qK_13, qR_0_2, qK_25, qR_0_3, qK_40, qR_0_4, qK_41, qR_0_5, qK_45, qR_0_6, qK_46, qR_0_7, qK_50, qR_0_8, qK_53, qR_0_9, qK_66, qR_0_10, qK_74, qR_0_11, qK_80, qR_0_12, qK_82, qR_0_14, qK_83, qR_0_15, qK_84, qK_1, qR_1_6, qK_2, qR_1_7, qK_3, qR_1_8, qK_4, qR_1_9, qK_5, qR_1_10, qK_6, qR_1_11, qK_7, qR_1_12, qK_8, qR_1_13, qK_9, qR_1_14, qK_10, qR_1_15, qK_11, qR_1_16, qK_12, qK_25, qR_25_0, qK_26, qR_25_1, qK_38, qR_25_2, qK_39, qK_26, qR_26_6, qK_27, qR_26_7, qK_28, qR_26_8, qK_29, qR_26_9, qK_30, qR_26_10, qK_31, qR_26_11, qK_32, qR_26_12, qK_33, qR_26_13, qK_34, qR_26_14, qK_35, qR_26_15, qK_36, qR_26_16, qK_37]
  refine qBI.fn (x_hasQuarrel zCb_n hX.1 hw q) (by decide) ?_
  simp (disch := omega) only [nI_leI, nI_ltI, nI_eq, nI_cl, qin_eq, nI_add, nI_mul, qb_z, qb_t, qb_f, nI_ne0', Nat.reduceAdd, Bool.false_eq_true, if_false, if_true, true_and, and_true, Nat.reduceEqDiff, not_true_eq_false, not_false_eq_true, false_implies, true_implies, ite_true, ite_false, Bool.not_eq_false, Bool.not_eq_true]
  refine And.symm ⟨fun e => ?_, fun hb => ?_⟩
  · exact g_no hA hW zCls.rf (by decide) (by unfold yYielder; rw [if_pos e]; rfl)
  obtain ⟨i, hi, rfl⟩ := zrg_nI hb
  refine qBI.of (x_look zCb_n (by decide) hX hw (by omega)) (by decide) (fun v σ1 g1 => ?_)
  obtain ⟨-, X1, -, -, -, f1⟩ := g1
  obtain ⟨hA1, c1⟩ := hA.pl hW f1 zPlk_k z27_k
  have e1 : (zit (zbrk (aC A)) (aC A)) 0 1 = aC A 0 1 := zit_q _ _ _ (by decide) (by decide) (by decide) _
  have e2 : σ1.1 37 i = nI (zit (zbrk (aC A)) (aC A) 9 i) := X1.1.en (by omega)
  simp (disch := omega) only [nI_leI, nI_ltI, nI_eq, nI_cl, qin_eq, nI_add, nI_mul, qb_z, qb_t, qb_f, nI_ne0', Nat.reduceAdd, Bool.false_eq_true, if_false, if_true, true_and, and_true, Nat.reduceEqDiff, not_true_eq_false, not_false_eq_true, false_implies, true_implies, ite_true, ite_false]
  rw [e2, zbrk_all hw (by omega) hi]
  exact g_ok hA1 hW c1 (by decide) (by unfold yYielder; rw [if_neg (by rw [hb]; decide), nI_tn (by omega)]; rfl)
set_option maxRecDepth 20000 in
theorem X_reveille {σ : qSg} {A : zA} (hA : zXA σ A) (hW : zAW A) : qCI 5 177 [qr 0] σ (zXCall σ (yReveille A)) := by
  have h5 : aC A 0 5 ≤ 9999 := hW.1.2.1
  refine qCI.of [some (qr 0)] ok_177 (Nat.le_of_ble_eq_true rfl) rfl ?_
  refine qV.go 30 [9999] ok_177 ?_
  simp only [qW_nop, qW_iconstm, qW_bipush, qW_aloadn, qW_pop, qW_icne, qW_getf, qW_cv2_0, qW_iret0, Nat.reduceAdd, Nat.reduceMul, Nat.reduceBEq, Nat.reduceEqDiff, Nat.reduceLT, Nat.reduceLeDiff, Nat.zero_le, nI_add, nI_mul, nI_cl, qin_eq, qofI, qlg_0, qlg_s, qls_i0, qls_r0, qls_l0, qls_1, qls_2, qkl_i, qkl_r, qkl_l, qkl_n, qIsI_i, qIsL_l, qIsR_r, qint_i, qil_i, qil_r, qil_l, qf4_0, qf4_1, qf4_2, qf4_3, qf2_0, qf2_1, qcs_n, qcs_i, qcs_r, qcs_l, qst_n, qst_c, qJ_0, qJ_st, qJ_go, qfl_I, qfl_Z, qfl_L, qfl_R, qrI_i, qrL_l, qrV_v, qRcv_0, qRcv_s, eq_self, true_and, and_true, true_or, or_true, false_and, and_false, false_or, or_false, ite_true, if_true, if_false, Bool.true_or, Bool.false_or, Bool.or_false, beq_self_eq_true, Bool.false_eq_true, bX11_reveille_0, bX11_reveille_30, kX11_reveille_0, kX11_reveille_30, qK_0, qR_0_0, qK_1, qR_0_1, qK_13, qR_0_2, qK_25, qR_0_3, qK_40, qR_0_4, qK_41, qR_0_5, qK_45, qR_0_6, qK_46, qR_0_7, qK_50, qR_0_8, qK_53, qR_0_9, qK_66, qR_0_10, qK_74, qR_0_11, qK_80, qR_0_12, qK_82, qR_0_14, qK_83, qR_0_15, qK_84, qK_1, qR_1_6, qK_2, qR_1_7, qK_3, qR_1_8, qK_4, qR_1_9, qK_5, qR_1_10, qK_6, qR_1_11, qK_7, qR_1_12, qK_8, qR_1_13, qK_9, qR_1_14, qK_10, qR_1_15, qK_11, qR_1_16, qK_12, qK_25, qR_25_0, qK_26, qR_25_1, qK_38, qR_25_2, qK_39]
  refine qBI.of (x_look zCb_n (by decide) hA.x hW.w (by omega)) (by decide) (fun v σ1 g1 => ?_)
  obtain ⟨-, -, -, -, e1, f1⟩ := g1
  obtain ⟨hA1, c1⟩ := hA.pl hW f1 zPlk_k z27_k
  rw [e1]
  unfold yReveille
  by_cases e : zopens (aC A) = 0
  · rw [if_pos e, if_pos e]
    refine ⟨fun hh => absurd rfl hh, fun _ => ?_⟩
    exact g_no hA1 hW c1 (by decide) rfl
  · rw [if_neg e, if_neg e]
    have hl := zlst_le (fun k => (zmin (zit (zfst (aC A)) (aC A))).2.2.testBit k) 31 0
    have hz : zlow (zmin (zit (zfst (aC A)) (aC A))).2.2 ≤ 31 := by unfold zlow; omega
    refine ⟨fun _ => ?_, fun hh => absurd hh (nI_nem (by omega))⟩
    exact g_ok hA1 hW c1 (by decide) rfl
set_option maxRecDepth 20000 in
theorem X_last {σ : qSg} {A : zA} (hA : zXA σ A) (hW : zAW A) : qCI 5 178 [qr 0] σ (zXCall σ (yLast A)) := by
  have hX := hA.x
  have hw := hW.w
  have wb := hw.1
  have h5 : aC A 0 5 ≤ 9999 := hW.1.2.1
  refine qCI.of [some (qr 0)] ok_178 (Nat.le_of_ble_eq_true rfl) rfl ?_
  refine qV.go 30 [9999] ok_178 ?_
  simp only [qW_nop, qW_bipush, qW_aloadn, qW_pop, qW_ifne, qW_getf, qW_cv1_0, qW_cv2_0, qW_iret0, Nat.reduceAdd, Nat.reduceMul, Nat.reduceBEq, Nat.reduceEqDiff, Nat.reduceLT, Nat.reduceLeDiff, Nat.zero_le, nI_add, nI_mul, nI_cl, qin_eq, qofI, qlg_0, qlg_s, qls_i0, qls_r0, qls_l0, qls_1, qls_2, qkl_i, qkl_r, qkl_l, qkl_n, qIsI_i, qIsL_l, qIsR_r, qint_i, qil_i, qil_r, qil_l, qf4_0, qf4_1, qf4_2, qf4_3, qf2_0, qf2_1, qcs_n, qcs_i, qcs_r, qcs_l, qst_n, qst_c, qJ_0, qJ_st, qJ_go, qfl_I, qfl_Z, qfl_L, qfl_R, qrI_i, qrL_l, qrV_v, qRcv_0, qRcv_s, eq_self, true_and, and_true, true_or, or_true, false_and, and_false, false_or, or_false, ite_true, if_true, if_false, Bool.true_or, Bool.false_or, Bool.or_false, beq_self_eq_true, Bool.false_eq_true, bX11_last_0, bX11_last_17, kX11_last_0, kX11_last_17, qK_0, qR_0_0, qK_1, qR_0_1, qK_13, qR_0_2, qK_25, qR_0_3, qK_40, qR_0_4, qK_41, qR_0_5, qK_45, qR_0_6, qK_46, qR_0_7, qK_50, qR_0_8, qK_53, qR_0_9, qK_66, qR_0_10, qK_74, qR_0_11, qK_80, qR_0_12, qK_82, qR_0_14, qK_83, qR_0_15, qK_84, qK_1, qR_1_6, qK_2, qR_1_7, qK_3, qR_1_8, qK_4, qR_1_9, qK_5, qR_1_10, qK_6, qR_1_11, qK_7, qR_1_12, qK_8, qR_1_13, qK_9, qR_1_14, qK_10, qR_1_15, qK_11, qR_1_16, qK_12, qK_25, qR_25_0, qK_26, qR_25_1, qK_38, qR_25_2, qK_39]
  have e4 : σ.1 1 4 = nI (aC A 0 0) := hX.1.b
  rw [e4]
  unfold yLast
  simp (disch := omega) only [nI_leI, nI_ltI, nI_eq, nI_cl, qin_eq, nI_add, nI_mul, qb_z, qb_t, qb_f, nI_ne0', Nat.reduceAdd, Bool.false_eq_true, if_false, if_true, true_and, and_true, Nat.reduceEqDiff, not_true_eq_false, not_false_eq_true, false_implies, true_implies, ite_true, ite_false]
  refine ⟨fun e => ?_, fun e => ?_⟩
  · rw [if_neg e]
    refine qBI.of (x_look zCb_n (by decide) hX hw (by omega)) (by decide) (fun v σ1 g1 => ?_)
    obtain ⟨-, X1, u1, -, -, f1⟩ := g1
    obtain ⟨hA1, c1⟩ := hA.pl hW f1 zPlk_k z27_k
    have e5 : σ1.1 26 4 = nI (aC A 0 0) := by rw [X1.1.b, zit_q _ _ _ (by decide) (by decide) (by decide)]
    refine qBI.fn (x_lastUp hw (by omega) (by omega) e5 u1) (by decide) ?_
    exact g_ok hA1 hW c1 (by decide) rfl
  · rw [if_pos e]
    exact g_no hA hW zCls.rf (by decide) rfl
