/-! the reference: minutes, dawns, new quarrels, yields, pitches; keeping and taking back; how long till .. -/
set_option maxRecDepth 20000 in
theorem m_minutesGo {σ : qSg} {C : zC} (h : zM σ 0 C) (hw : zW C) (n : Nat) (hn : C 0 5 + n ≤ 100000) : qCI 7 281 [qr 139, qi (nI n)] σ (fun r σ' => r = nI (zmins n C).2 ∧ zM σ' 0 (zit n C) ∧ zF zPm σ σ') := by
  refine qCI.of [some (qr 139), some (qi (nI n)), none, none] ok_281 (Nat.le_of_ble_eq_true rfl) rfl ?_
  refine qV.go 30 [4] ok_281 ?_
  simp only [qW_nop, qW_iconst, qW_iloadn, qW_aloadn, qW_istoren, qW_iinc, qW_iadd, qW_icge, qW_goto, qW_cv1_0, qW_iret0, Nat.reduceAdd, Nat.reduceMul, Nat.reduceBEq, Nat.reduceEqDiff, Nat.reduceLT, Nat.reduceLeDiff, Nat.zero_le, nI_add, nI_mul, nI_cl, qin_eq, qofI, qlg_0, qlg_s, qls_i0, qls_r0, qls_l0, qls_1, qls_2, qkl_i, qkl_r, qkl_l, qkl_n, qIsI_i, qIsL_l, qIsR_r, qint_i, qil_i, qil_r, qil_l, qf4_0, qf4_1, qf4_2, qf4_3, qf2_0, qf2_1, qcs_n, qcs_i, qcs_r, qcs_l, qst_n, qst_c, qJ_0, qJ_st, qJ_go, qfl_I, qfl_Z, qfl_L, qfl_R, qrI_i, qrL_l, qrV_v, qRcv_0, qRcv_s, eq_self, true_and, and_true, true_or, or_true, false_and, and_false, false_or, or_false, ite_true, if_true, if_false, Bool.true_or, Bool.false_or, Bool.or_false, beq_self_eq_true, Bool.false_eq_true, bX12_minutesGo_0, bX12_minutesGo_4, bX12_minutesGo_22, kX12_minutesGo_0, kX12_minutesGo_4, kX12_minutesGo_22, qK_139, qR_139_0, qK_140, qR_139_1, qK_141, qR_139_5, qK_142, qR_139_6, qK_143, qR_139_7, qK_144, qR_139_8, qK_145, qR_139_9, qK_146, qR_139_21, qK_147, qR_139_25, qK_148, qR_139_30, qK_149, qR_139_31, qK_150, qR_139_33, qK_151, qR_139_34, qK_152, qR_139_35, qK_153, qR_139_36, qK_154, qR_139_39, qK_155, qR_139_40, qK_156, qR_139_41, qK_157]
  refine qdown (n := n) (P := fun k => ∀ σ1, zM σ1 0 (zit k C) → zF zPm σ σ1 → qV 281 7 _ 4 [some (qr 139), some (qi (nI n)), some (qi (nI (zmins k C).2)), some (qi (nI k))] [] σ1) (fun k hk ih => ?_) 0 (Nat.zero_le _) σ h zF.rf
  intro σ1 a1 f1
  refine qV.go 30 [4] ok_281 ?_
  simp only [qW_nop, qW_iconst, qW_iloadn, qW_aloadn, qW_istoren, qW_iinc, qW_iadd, qW_icge, qW_goto, qW_cv1_0, qW_iret0, Nat.reduceAdd, Nat.reduceMul, Nat.reduceBEq, Nat.reduceEqDiff, Nat.reduceLT, Nat.reduceLeDiff, Nat.zero_le, nI_add, nI_mul, nI_cl, qin_eq, qofI, qlg_0, qlg_s, qls_i0, qls_r0, qls_l0, qls_1, qls_2, qkl_i, qkl_r, qkl_l, qkl_n, qIsI_i, qIsL_l, qIsR_r, qint_i, qil_i, qil_r, qil_l, qf4_0, qf4_1, qf4_2, qf4_3, qf2_0, qf2_1, qcs_n, qcs_i, qcs_r, qcs_l, qst_n, qst_c, qJ_0, qJ_st, qJ_go, qfl_I, qfl_Z, qfl_L, qfl_R, qrI_i, qrL_l, qrV_v, qRcv_0, qRcv_s, eq_self, true_and, and_true, true_or, or_true, false_and, and_false, false_or, or_false, ite_true, if_true, if_false, Bool.true_or, Bool.false_or, Bool.or_false, beq_self_eq_true, Bool.false_eq_true, bX12_minutesGo_0, bX12_minutesGo_4, bX12_minutesGo_22, kX12_minutesGo_0, kX12_minutesGo_4, kX12_minutesGo_22, qK_139, qR_139_0, qK_140, qR_139_1, qK_141, qR_139_5, qK_142, qR_139_6, qK_143, qR_139_7, qK_144, qR_139_8, qK_145, qR_139_9, qK_146, qR_139_21, qK_147, qR_139_25, qK_148, qR_139_30, qK_149, qR_139_31, qK_150, qR_139_33, qK_151, qR_139_34, qK_152, qR_139_35, qK_153, qR_139_36, qK_154, qR_139_39, qK_155, qR_139_40, qK_156, qR_139_41, qK_157]
  simp (disch := omega) only [nI_leI, nI_ltI, nI_eq, nI_cl, qin_eq, nI_add, nI_mul, qb_z, qb_t, qb_f, nI_ne0', Nat.reduceAdd, Bool.false_eq_true, if_false, if_true, true_and, and_true, Nat.reduceEqDiff, not_true_eq_false, not_false_eq_true, false_implies, true_implies, ite_true, ite_false]
  refine ⟨fun h1 => ?_, fun h1 => ?_⟩
  · have e : k = n := by omega
    subst e
    exact ⟨rfl, a1, f1⟩
  · refine qBI.of (m_minuteGoes a1 (zit_W hw k (by omega)) (by rw [zit_clock]; omega)) (by decide) (fun r σ2 h2 => ?_)
    obtain ⟨rfl, a2, f2, -⟩ := h2
    rw [nI_add]
    exact ih (by omega) σ2 a2 (f1.tr f2)
set_option maxRecDepth 20000 in
theorem m_keeps (σ : qSg) {t : Nat} (h1 : 88 ≤ t) (h2 : t + 88 ≤ 3088) : qCV 1 300 [qr 139, qi (nI t)] σ (fun σ' => σ' = zmv σ 140 0 t 88) := by
  refine qCV.of [some (qr 139), some (qi (nI t)), none] ok_300 (Nat.le_of_ble_eq_true rfl) rfl ?_
  refine qV.go 30 [2] ok_300 ?_
  simp only [qW_nop, qW_iconst, qW_bipush, qW_iloadn, qW_aloadn, qW_istoren, qW_iinc, qW_iadd, qW_icge, qW_goto, qW_getf, qW_iald, qW_iast, qW_vret, Nat.reduceAdd, Nat.reduceMul, Nat.reduceBEq, Nat.reduceEqDiff, Nat.reduceLT, Nat.reduceLeDiff, Nat.zero_le, nI_add, nI_mul, nI_cl, qin_eq, qofI, qlg_0, qlg_s, qls_i0, qls_r0, qls_l0, qls_1, qls_2, qkl_i, qkl_r, qkl_l, qkl_n, qIsI_i, qIsL_l, qIsR_r, qint_i, qil_i, qil_r, qil_l, qf4_0, qf4_1, qf4_2, qf4_3, qf2_0, qf2_1, qcs_n, qcs_i, qcs_r, qcs_l, qst_n, qst_c, qJ_0, qJ_st, qJ_go, qfl_I, qfl_Z, qfl_L, qfl_R, qrI_i, qrL_l, qrV_v, qRcv_0, qRcv_s, eq_self, true_and, and_true, true_or, or_true, false_and, and_false, false_or, or_false, ite_true, if_true, if_false, Bool.true_or, Bool.false_or, Bool.or_false, beq_self_eq_true, Bool.false_eq_true, bX12_keeps_0, bX12_keeps_2, bX12_keeps_28, kX12_keeps_0, kX12_keeps_2, kX12_keeps_28, qK_139, qR_139_0, qK_140, qR_139_1, qK_141, qR_139_5, qK_142, qR_139_6, qK_143, qR_139_7, qK_144, qR_139_8, qK_145, qR_139_9, qK_146, qR_139_21, qK_147, qR_139_25, qK_148, qR_139_30, qK_149, qR_139_31, qK_150, qR_139_33, qK_151, qR_139_34, qK_152, qR_139_35, qK_153, qR_139_36, qK_154, qR_139_39, qK_155, qR_139_40, qK_156, qR_139_41, qK_157]
  refine qdown (n := 88) (P := fun k => qV 300 1 (.inr (.inr fun σ' => σ' = zmv σ 140 0 t 88)) 2 [some (qr 139), some (qi (nI t)), some (qi (nI k))] [] (zmv σ 140 0 t k)) (fun k hk ih => ?_) 0 (Nat.zero_le _) |> fun hh => by rw [zmv_0] at hh; exact hh
  refine qV.go 30 [2] ok_300 ?_
  simp only [qW_nop, qW_iconst, qW_bipush, qW_iloadn, qW_aloadn, qW_istoren, qW_iinc, qW_iadd, qW_icge, qW_goto, qW_getf, qW_iald, qW_iast, qW_vret, Nat.reduceAdd, Nat.reduceMul, Nat.reduceBEq, Nat.reduceEqDiff, Nat.reduceLT, Nat.reduceLeDiff, Nat.zero_le, nI_add, nI_mul, nI_cl, qin_eq, qofI, qlg_0, qlg_s, qls_i0, qls_r0, qls_l0, qls_1, qls_2, qkl_i, qkl_r, qkl_l, qkl_n, qIsI_i, qIsL_l, qIsR_r, qint_i, qil_i, qil_r, qil_l, qf4_0, qf4_1, qf4_2, qf4_3, qf2_0, qf2_1, qcs_n, qcs_i, qcs_r, qcs_l, qst_n, qst_c, qJ_0, qJ_st, qJ_go, qfl_I, qfl_Z, qfl_L, qfl_R, qrI_i, qrL_l, qrV_v, qRcv_0, qRcv_s, eq_self, true_and, and_true, true_or, or_true, false_and, and_false, false_or, or_false, ite_true, if_true, if_false, Bool.true_or, Bool.false_or, Bool.or_false, beq_self_eq_true, Bool.false_eq_true, bX12_keeps_0, bX12_keeps_2, bX12_keeps_28, kX12_keeps_0, kX12_keeps_2, kX12_keeps_28, qK_139, qR_139_0, qK_140, qR_139_1, qK_141, qR_139_5, qK_142, qR_139_6, qK_143, qR_139_7, qK_144, qR_139_8, qK_145, qR_139_9, qK_146, qR_139_21, qK_147, qR_139_25, qK_148, qR_139_30, qK_149, qR_139_31, qK_150, qR_139_33, qK_151, qR_139_34, qK_152, qR_139_35, qK_153, qR_139_36, qK_154, qR_139_39, qK_155, qR_139_40, qK_156, qR_139_41, qK_157]
  simp (disch := omega) only [nI_leI, nI_ltI, nI_eq, nI_cl, qin_eq, nI_add, nI_mul, qb_z, qb_t, qb_f, nI_ne0', Nat.reduceAdd, Bool.false_eq_true, if_false, if_true, true_and, and_true, Nat.reduceEqDiff, not_true_eq_false, not_false_eq_true, false_implies, true_implies, ite_true, ite_false]
  refine ⟨fun h1 => ?_, fun h1 => ?_⟩
  · rw [show k = 88 by omega]
  · have := zmv_s (σ := σ) (a := 140) (src := 0) (dst := t) (k := k) (by omega)
    rw [Nat.zero_add] at this
    rw [this]
    exact ⟨qin_n (by omega) (by decide), ih (by omega)⟩
set_option maxRecDepth 20000 in
theorem m_restores (σ : qSg) {t : Nat} (h1 : 88 ≤ t) (h2 : t + 88 ≤ 3088) : qCV 1 301 [qr 139, qi (nI t)] σ (fun σ' => σ' = zmv σ 140 t 0 88) := by
  refine qCV.of [some (qr 139), some (qi (nI t)), none] ok_301 (Nat.le_of_ble_eq_true rfl) rfl ?_
  refine qV.go 30 [2] ok_301 ?_
  simp only [qW_nop, qW_iconst, qW_bipush, qW_iloadn, qW_aloadn, qW_istoren, qW_iinc, qW_iadd, qW_icge, qW_goto, qW_getf, qW_iald, qW_iast, qW_vret, Nat.reduceAdd, Nat.reduceMul, Nat.reduceBEq, Nat.reduceEqDiff, Nat.reduceLT, Nat.reduceLeDiff, Nat.zero_le, nI_add, nI_mul, nI_cl, qin_eq, qofI, qlg_0, qlg_s, qls_i0, qls_r0, qls_l0, qls_1, qls_2, qkl_i, qkl_r, qkl_l, qkl_n, qIsI_i, qIsL_l, qIsR_r, qint_i, qil_i, qil_r, qil_l, qf4_0, qf4_1, qf4_2, qf4_3, qf2_0, qf2_1, qcs_n, qcs_i, qcs_r, qcs_l, qst_n, qst_c, qJ_0, qJ_st, qJ_go, qfl_I, qfl_Z, qfl_L, qfl_R, qrI_i, qrL_l, qrV_v, qRcv_0, qRcv_s, eq_self, true_and, and_true, true_or, or_true, false_and, and_false, false_or, or_false, ite_true, if_true, if_false, Bool.true_or, Bool.false_or, Bool.or_false, beq_self_eq_true, Bool.false_eq_true, bX12_restores_0, bX12_restores_2, bX12_restores_28, kX12_restores_0, kX12_restores_2, kX12_restores_28, qK_139, qR_139_0, qK_140, qR_139_1, qK_141, qR_139_5, qK_142, qR_139_6, qK_143, qR_139_7, qK_144, qR_139_8, qK_145, qR_139_9, qK_146, qR_139_21, qK_147, qR_139_25, qK_148, qR_139_30, qK_149, qR_139_31, qK_150, qR_139_33, qK_151, qR_139_34, qK_152, qR_139_35, qK_153, qR_139_36, qK_154, qR_139_39, qK_155, qR_139_40, qK_156, qR_139_41, qK_157]
  refine qdown (n := 88) (P := fun k => qV 301 1 (.inr (.inr fun σ' => σ' = zmv σ 140 t 0 88)) 2 [some (qr 139), some (qi (nI t)), some (qi (nI k))] [] (zmv σ 140 t 0 k)) (fun k hk ih => ?_) 0 (Nat.zero_le _) |> fun hh => by rw [zmv_0] at hh; exact hh
  refine qV.go 30 [2] ok_301 ?_
  simp only [qW_nop, qW_iconst, qW_bipush, qW_iloadn, qW_aloadn, qW_istoren, qW_iinc, qW_iadd, qW_icge, qW_goto, qW_getf, qW_iald, qW_iast, qW_vret, Nat.reduceAdd, Nat.reduceMul, Nat.reduceBEq, Nat.reduceEqDiff, Nat.reduceLT, Nat.reduceLeDiff, Nat.zero_le, nI_add, nI_mul, nI_cl, qin_eq, qofI, qlg_0, qlg_s, qls_i0, qls_r0, qls_l0, qls_1, qls_2, qkl_i, qkl_r, qkl_l, qkl_n, qIsI_i, qIsL_l, qIsR_r, qint_i, qil_i, qil_r, qil_l, qf4_0, qf4_1, qf4_2, qf4_3, qf2_0, qf2_1, qcs_n, qcs_i, qcs_r, qcs_l, qst_n, qst_c, qJ_0, qJ_st, qJ_go, qfl_I, qfl_Z, qfl_L, qfl_R, qrI_i, qrL_l, qrV_v, qRcv_0, qRcv_s, eq_self, true_and, and_true, true_or, or_true, false_and, and_false, false_or, or_false, ite_true, if_true, if_false, Bool.true_or, Bool.false_or, Bool.or_false, beq_self_eq_true, Bool.false_eq_true, bX12_restores_0, bX12_restores_2, bX12_restores_28, kX12_restores_0, kX12_restores_2, kX12_restores_28, qK_139, qR_139_0, qK_140, qR_139_1, qK_141, qR_139_5, qK_142, qR_139_6, qK_143, qR_139_7, qK_144, qR_139_8, qK_145, qR_139_9, qK_146, qR_139_21, qK_147, qR_139_25, qK_148, qR_139_30, qK_149, qR_139_31, qK_150, qR_139_33, qK_151, qR_139_34, qK_152, qR_139_35, qK_153, qR_139_36, qK_154, qR_139_39, qK_155, qR_139_40, qK_156, qR_139_41, qK_157]
  simp (disch := omega) only [nI_leI, nI_ltI, nI_eq, nI_cl, qin_eq, nI_add, nI_mul, qb_z, qb_t, qb_f, nI_ne0', Nat.reduceAdd, Bool.false_eq_true, if_false, if_true, true_and, and_true, Nat.reduceEqDiff, not_true_eq_false, not_false_eq_true, false_implies, true_implies, ite_true, ite_false]
  refine ⟨fun h1 => ?_, fun h1 => ?_⟩
  · rw [show k = 88 by omega]
  · have := zmv_s (σ := σ) (a := 140) (src := t) (dst := 0) (k := k) (by omega)
    rw [Nat.zero_add] at this
    rw [this]
    exact ⟨qin_n (by omega) (by decide), ih (by omega)⟩
set_option maxRecDepth 20000 in
theorem m_firstOf (σ : qSg) {s : Nat} (hs : s < 2147483648) (k : Nat) (hk : k < 31) (h1 : s.testBit k = true) (h2 : ∀ j, j < k → s.testBit j = false) : qFI 1 311 [qi (nI s)] σ (nI k) := by
  refine qCI.of [some (qi (nI s)), none] ok_311 (Nat.le_of_ble_eq_true rfl) rfl ?_
  refine qV.go 30 [2] ok_311 ?_
  simp only [qW_nop, qW_iconst, qW_iloadn, qW_istoren, qW_iinc, qW_iand, qW_ishr, qW_ifne, qW_goto, qW_iret0, Nat.reduceAdd, Nat.reduceMul, Nat.reduceBEq, Nat.reduceEqDiff, Nat.reduceLT, Nat.reduceLeDiff, Nat.zero_le, nI_add, nI_mul, nI_cl, qin_eq, qofI, qlg_0, qlg_s, qls_i0, qls_r0, qls_l0, qls_1, qls_2, qkl_i, qkl_r, qkl_l, qkl_n, qIsI_i, qIsL_l, qIsR_r, qint_i, qil_i, qil_r, qil_l, qf4_0, qf4_1, qf4_2, qf4_3, qf2_0, qf2_1, qcs_n, qcs_i, qcs_r, qcs_l, qst_n, qst_c, qJ_0, qJ_st, qJ_go, qfl_I, qfl_Z, qfl_L, qfl_R, qrI_i, qrL_l, qrV_v, qRcv_0, qRcv_s, eq_self, true_and, and_true, true_or, or_true, false_and, and_false, false_or, or_false, ite_true, if_true, if_false, Bool.true_or, Bool.false_or, Bool.or_false, beq_self_eq_true, Bool.false_eq_true, bX12_firstOf_0, bX12_firstOf_2, bX12_firstOf_16, kX12_firstOf_0, kX12_firstOf_2, kX12_firstOf_16, qK_139, qR_139_0, qK_140, qR_139_1, qK_141, qR_139_5, qK_142, qR_139_6, qK_143, qR_139_7, qK_144, qR_139_8, qK_145, qR_139_9, qK_146, qR_139_21, qK_147, qR_139_25, qK_148, qR_139_30, qK_149, qR_139_31, qK_150, qR_139_33, qK_151, qR_139_34, qK_152, qR_139_35, qK_153, qR_139_36, qK_154, qR_139_39, qK_155, qR_139_40, qK_156, qR_139_41, qK_157]
  refine qdown (n := k) (P := fun j => qV 311 1 _ 2 [some (qi (nI s)), some (qi (nI j))] [] σ) (fun j hj ih => ?_) 0 (Nat.zero_le _)
  refine qV.go 30 [2] ok_311 ?_
  simp only [qW_nop, qW_iconst, qW_iloadn, qW_istoren, qW_iinc, qW_iand, qW_ishr, qW_ifne, qW_goto, qW_iret0, Nat.reduceAdd, Nat.reduceMul, Nat.reduceBEq, Nat.reduceEqDiff, Nat.reduceLT, Nat.reduceLeDiff, Nat.zero_le, nI_add, nI_mul, nI_cl, qin_eq, qofI, qlg_0, qlg_s, qls_i0, qls_r0, qls_l0, qls_1, qls_2, qkl_i, qkl_r, qkl_l, qkl_n, qIsI_i, qIsL_l, qIsR_r, qint_i, qil_i, qil_r, qil_l, qf4_0, qf4_1, qf4_2, qf4_3, qf2_0, qf2_1, qcs_n, qcs_i, qcs_r, qcs_l, qst_n, qst_c, qJ_0, qJ_st, qJ_go, qfl_I, qfl_Z, qfl_L, qfl_R, qrI_i, qrL_l, qrV_v, qRcv_0, qRcv_s, eq_self, true_and, and_true, true_or, or_true, false_and, and_false, false_or, or_false, ite_true, if_true, if_false, Bool.true_or, Bool.false_or, Bool.or_false, beq_self_eq_true, Bool.false_eq_true, bX12_firstOf_0, bX12_firstOf_2, bX12_firstOf_16, kX12_firstOf_0, kX12_firstOf_2, kX12_firstOf_16, qK_139, qR_139_0, qK_140, qR_139_1, qK_141, qR_139_5, qK_142, qR_139_6, qK_143, qR_139_7, qK_144, qR_139_8, qK_145, qR_139_9, qK_146, qR_139_21, qK_147, qR_139_25, qK_148, qR_139_30, qK_149, qR_139_31, qK_150, qR_139_33, qK_151, qR_139_34, qK_152, qR_139_35, qK_153, qR_139_36, qK_154, qR_139_39, qK_155, qR_139_40, qK_156, qR_139_41, qK_157]
  rw [nI_bit (by omega) hs]
  by_cases e : j = k
  · subst e
    rw [h1]
    simp (disch := omega) only [nI_leI, nI_ltI, nI_eq, nI_cl, qin_eq, nI_add, nI_mul, qb_z, qb_t, qb_f, nI_ne0', Nat.reduceAdd, Bool.false_eq_true, if_false, if_true, true_and, and_true, Nat.reduceEqDiff, not_true_eq_false, not_false_eq_true, false_implies, true_implies, ite_true, ite_false]
  · rw [h2 j (by omega)]
    simp (disch := omega) only [nI_leI, nI_ltI, nI_eq, nI_cl, qin_eq, nI_add, nI_mul, qb_z, qb_t, qb_f, nI_ne0', Nat.reduceAdd, Bool.false_eq_true, if_false, if_true, true_and, and_true, Nat.reduceEqDiff, not_true_eq_false, not_false_eq_true, false_implies, true_implies, ite_true, ite_false]
    exact ih (by omega)
/-- the first minute behind which those of s are up -/
def zupn (C : zC) (s : Nat) : Nat := zlst (fun n => zsub s (zups (zit n C))) 300 0
theorem zups_it (C : zC) (n i : Nat) : (zups (zit n C)).testBit i = (decide (i < C 0 0) && zUp (zit n C) i) := by
  unfold zups
  rw [bm_bit, zit_q _ _ _ (by decide) (by decide) (by decide)]
theorem zupn_spec {C : zC} (hw : zW C) (hm : C 0 5 ≤ 99000) {s : Nat} (hs : ∀ i, s.testBit i = true → i < C 0 0) :
    zupn C s ≤ 130 ∧ zsub s (zups (zit (zupn C s) C)) = true ∧ ∀ m, m < zupn C s → zsub s (zups (zit m C)) = false := by
  have := zlst_spec (fun n => zsub s (zups (zit n C))) 300 0 130 (by omega) (by omega) (by
    show zsub s (zups (zit 130 C)) = true
    rw [zsub_iff]
    intro i hi
    rw [zups_it, zUp_end hw (Nat.le_refl _) (by omega)]
    simp [hs i hi])
  exact ⟨this.2.1, this.2.2.1, fun m h => this.2.2.2 m (by omega) h⟩
set_option maxRecDepth 20000 in
theorem m_upOf {σ : qSg} {C : zC} (h : zM σ 0 C) (hw : zW C) (hm : C 0 5 ≤ 99000) {s : Nat} (hs : ∀ i, s.testBit i = true → i < C 0 0) (hs2 : s < 2147483648) : qCI 7 303 [qr 139, qi (nI s)] σ (fun r σ' => r = nI (zupn C s) ∧ zM σ' 0 (zit (zupn C s) C) ∧ zF zPm σ σ') := by
  have sp := zupn_spec hw hm hs
  refine qCI.of [some (qr 139), some (qi (nI s)), none] ok_303 (Nat.le_of_ble_eq_true rfl) rfl ?_
  refine qV.go 30 [2] ok_303 ?_
  simp only [qW_nop, qW_iconst, qW_iconstm, qW_iloadn, qW_aloadn, qW_istoren, qW_iinc, qW_iand, qW_ixor, qW_pop, qW_ifeq, qW_goto, qW_cv1_0, qW_iret0, Nat.reduceAdd, Nat.reduceMul, Nat.reduceBEq, Nat.reduceEqDiff, Nat.reduceLT, Nat.reduceLeDiff, Nat.zero_le, nI_add, nI_mul, nI_cl, qin_eq, qofI, qlg_0, qlg_s, qls_i0, qls_r0, qls_l0, qls_1, qls_2, qkl_i, qkl_r, qkl_l, qkl_n, qIsI_i, qIsL_l, qIsR_r, qint_i, qil_i, qil_r, qil_l, qf4_0, qf4_1, qf4_2, qf4_3, qf2_0, qf2_1, qcs_n, qcs_i, qcs_r, qcs_l, qst_n, qst_c, qJ_0, qJ_st, qJ_go, qfl_I, qfl_Z, qfl_L, qfl_R, qrI_i, qrL_l, qrV_v, qRcv_0, qRcv_s, eq_self, true_and, and_true, true_or, or_true, false_and, and_false, false_or, or_false, ite_true, if_true, if_false, Bool.true_or, Bool.false_or, Bool.or_false, beq_self_eq_true, Bool.false_eq_true, bX12_upOf_0, bX12_upOf_2, bX12_upOf_24, kX12_upOf_0, kX12_upOf_2, kX12_upOf_24, qK_139, qR_139_0, qK_140, qR_139_1, qK_141, qR_139_5, qK_142, qR_139_6, qK_143, qR_139_7, qK_144, qR_139_8, qK_145, qR_139_9, qK_146, qR_139_21, qK_147, qR_139_25, qK_148, qR_139_30, qK_149, qR_139_31, qK_150, qR_139_33, qK_151, qR_139_34, qK_152, qR_139_35, qK_153, qR_139_36, qK_154, qR_139_39, qK_155, qR_139_40, qK_156, qR_139_41, qK_157]
  refine qdown (n := zupn C s) (P := fun k => ∀ σ1, zM σ1 0 (zit k C) → zF zPm σ σ1 → qV 303 7 _ 2 [some (qr 139), some (qi (nI s)), some (qi (nI k))] [] σ1) (fun k hk ih => ?_) 0 (Nat.zero_le _) σ h zF.rf
  intro σ1 a1 f1
  have w1 := zit_W hw k (by omega)
  refine qV.go 30 [2] ok_303 ?_
  simp only [qW_nop, qW_iconst, qW_iconstm, qW_iloadn, qW_aloadn, qW_istoren, qW_iinc, qW_iand, qW_ixor, qW_pop, qW_ifeq, qW_goto, qW_cv1_0, qW_iret0, Nat.reduceAdd, Nat.reduceMul, Nat.reduceBEq, Nat.reduceEqDiff, Nat.reduceLT, Nat.reduceLeDiff, Nat.zero_le, nI_add, nI_mul, nI_cl, qin_eq, qofI, qlg_0, qlg_s, qls_i0, qls_r0, qls_l0, qls_1, qls_2, qkl_i, qkl_r, qkl_l, qkl_n, qIsI_i, qIsL_l, qIsR_r, qint_i, qil_i, qil_r, qil_l, qf4_0, qf4_1, qf4_2, qf4_3, qf2_0, qf2_1, qcs_n, qcs_i, qcs_r, qcs_l, qst_n, qst_c, qJ_0, qJ_st, qJ_go, qfl_I, qfl_Z, qfl_L, qfl_R, qrI_i, qrL_l, qrV_v, qRcv_0, qRcv_s, eq_self, true_and, and_true, true_or, or_true, false_and, and_false, false_or, or_false, ite_true, if_true, if_false, Bool.true_or, Bool.false_or, Bool.or_false, beq_self_eq_true, Bool.false_eq_true, bX12_upOf_0, bX12_upOf_2, bX12_upOf_24, kX12_upOf_0, kX12_upOf_2, kX12_upOf_24, qK_139, qR_139_0, qK_140, qR_139_1, qK_141, qR_139_5, qK_142, qR_139_6, qK_143, qR_139_7, qK_144, qR_139_8, qK_145, qR_139_9, qK_146, qR_139_21, qK_147, qR_139_25, qK_148, qR_139_30, qK_149, qR_139_31, qK_150, qR_139_33, qK_151, qR_139_34, qK_152, qR_139_35, qK_153, qR_139_36, qK_154, qR_139_39, qK_155, qR_139_40, qK_156, qR_139_41, qK_157]
  refine qBI.fn (m_areUp a1 w1) (by decide) ?_
  simp only [nI_notin0 hs2]
  refine ⟨fun h1 => ?_, fun h1 => ?_⟩
  · have e : k = zupn C s := by
      rcases Nat.lt_or_ge k (zupn C s) with q | q
      · rw [sp.2.2 k q] at h1; cases h1
      · omega
    subst e
    exact ⟨rfl, a1, f1⟩
  · have hlt : k < zupn C s := by
      rcases Nat.lt_or_ge k (zupn C s) with q | q
      · exact q
      · have e : k = zupn C s := by omega
        subst e
        exact absurd sp.2.1 h1
    refine qBI.of (m_minuteGoes a1 w1 (by rw [zit_clock]; omega)) (by decide) (fun r σ2 h2 => ?_)
    obtain ⟨-, a2, f2, -⟩ := h2
    exact ih hlt σ2 a2 (f1.tr f2)
set_option maxRecDepth 20000 in
theorem m_pitches {σ : qSg} {C : zC} (h : zM σ 0 C) (hw : zW C) {b c : Nat} (hb : b < C 0 0) (hc : c < 1000) : qCI 3 289 [qr 139, qi (nI b), qi (nI c)] σ (fun r σ' => r = qb (decide (C 1 b ≠ c)) ∧ zM σ' 0 (zu C 1 b c) ∧ zF zPc σ σ') := by
  obtain ⟨wb, wq, ww1, ww2, wh1, wh2, wo, wm, wB, wQ⟩ := id hw
  have g := wB b hb
  have gm : C 0 2 * C 0 3 ≤ 6 * 6 := Nat.mul_le_mul ww2 wh2
  refine qCI.of [some (qr 139), some (qi (nI b)), some (qi (nI c)), none] ok_289 (Nat.le_of_ble_eq_true rfl) rfl ?_
  refine qV.go 30 [9999] ok_289 ?_
  simp only [qW_nop, qW_iconst, qW_iloadn, qW_aloadn, qW_istoren, qW_iceq, qW_goto, qW_getf, qW_iast, qW_cs1_0, qW_cv3_0, qW_iret1, Nat.reduceAdd, Nat.reduceMul, Nat.reduceBEq, Nat.reduceEqDiff, Nat.reduceLT, Nat.reduceLeDiff, Nat.zero_le, nI_add, nI_mul, nI_cl, qin_eq, qofI, qlg_0, qlg_s, qls_i0, qls_r0, qls_l0, qls_1, qls_2, qkl_i, qkl_r, qkl_l, qkl_n, qIsI_i, qIsL_l, qIsR_r, qint_i, qil_i, qil_r, qil_l, qf4_0, qf4_1, qf4_2, qf4_3, qf2_0, qf2_1, qcs_n, qcs_i, qcs_r, qcs_l, qst_n, qst_c, qJ_0, qJ_st, qJ_go, qfl_I, qfl_Z, qfl_L, qfl_R, qrI_i, qrL_l, qrV_v, qRcv_0, qRcv_s, eq_self, true_and, and_true, true_or, or_true, false_and, and_false, false_or, or_false, ite_true, if_true, if_false, Bool.true_or, Bool.false_or, Bool.or_false, beq_self_eq_true, Bool.false_eq_true, bX12_pitches_0, bX12_pitches_14, bX12_pitches_15, kX12_pitches_0, kX12_pitches_14, kX12_pitches_15, qK_139, qR_139_0, qK_140, qR_139_1, qK_141, qR_139_5, qK_142, qR_139_6, qK_143, qR_139_7, qK_144, qR_139_8, qK_145, qR_139_9, qK_146, qR_139_21, qK_147, qR_139_25, qK_148, qR_139_30, qK_149, qR_139_31, qK_150, qR_139_33, qK_151, qR_139_34, qK_152, qR_139_35, qK_153, qR_139_36, qK_154, qR_139_39, qK_155, qR_139_40, qK_156, qR_139_41, qK_157]
  have a1 : zM (qwi σ 140 (8 + 5 * b) (nI c)) 0 (zu C 1 b c) := zM_wb h hw (f := 0) hb (by decide)
  have f1 : zF zPc σ (qwi σ 140 (8 + 5 * b) (nI c)) := zF.wi ⟨rfl, by omega⟩
  refine qBI.fn (m_boyOf σ (by omega)) (by decide) ?_
  rw [zMb0 h hb]
  simp (disch := omega) only [nI_leI, nI_ltI, nI_eq, nI_cl, qin_eq, nI_add, nI_mul, qb_z, qb_t, qb_f, nI_ne0', Nat.reduceAdd, Bool.false_eq_true, if_false, if_true, true_and, and_true, Nat.reduceEqDiff, not_true_eq_false, not_false_eq_true, false_implies, true_implies, ite_true, ite_false]
  refine ⟨fun h1 => ?_, fun h1 => ?_⟩
  · refine qBI.fn (m_boyRow σ _) (by decide) ?_
    simp only [nI_add, nI_mul]
    simp (disch := omega) only [nI_leI, nI_ltI, nI_eq, nI_cl, qin_eq, nI_add, nI_mul, qb_z, qb_t, qb_f, nI_ne0', Nat.reduceAdd, Bool.false_eq_true, if_false, if_true, true_and, and_true, Nat.reduceEqDiff, not_true_eq_false, not_false_eq_true, false_implies, true_implies, ite_true, ite_false]
    exact ⟨by simp [h1, qb], a1, f1⟩
  · refine qBI.fn (m_boyRow σ _) (by decide) ?_
    simp only [nI_add, nI_mul]
    simp (disch := omega) only [nI_leI, nI_ltI, nI_eq, nI_cl, qin_eq, nI_add, nI_mul, qb_z, qb_t, qb_f, nI_ne0', Nat.reduceAdd, Bool.false_eq_true, if_false, if_true, true_and, and_true, Nat.reduceEqDiff, not_true_eq_false, not_false_eq_true, false_implies, true_implies, ite_true, ite_false]
    exact ⟨by simp [h1, qb], a1, f1⟩
/-- a quarrel more -/
def zboot (C : zC) (a b g : Nat) : zC := zu (zu (zu (zu (zu C 6 (C 0 1) a) 7 (C 0 1) b) 8 (C 0 1) g) 9 (C 0 1) 0) 0 1 (C 0 1 + 1)
theorem zboot_ne {C : zC} {a b g f i : Nat} (h1 : ¬ (6 ≤ f ∧ f ≤ 9 ∧ i = C 0 1)) (h2 : ¬ (f = 0 ∧ i = 1)) : zboot C a b g f i = C f i := by
  unfold zboot
  rw [zu_ne h2, zu_ne (by omega), zu_ne (by omega), zu_ne (by omega), zu_ne (by omega)]
theorem zboot_q (C : zC) (a b g : Nat) : zboot C a b g 0 1 = C 0 1 + 1 := zu_eq
theorem zboot_6 (C : zC) (a b g : Nat) : zboot C a b g 6 (C 0 1) = a := by
  unfold zboot
  rw [zu_ne (by omega), zu_ne (by omega), zu_ne (by omega), zu_ne (by omega), zu_eq]
theorem zboot_7 (C : zC) (a b g : Nat) : zboot C a b g 7 (C 0 1) = b := by
  unfold zboot
  rw [zu_ne (by omega), zu_ne (by omega), zu_ne (by omega), zu_eq]
theorem zboot_8 (C : zC) (a b g : Nat) : zboot C a b g 8 (C 0 1) = g := by
  unfold zboot
  rw [zu_ne (by omega), zu_ne (by omega), zu_eq]
theorem zboot_9 (C : zC) (a b g : Nat) : zboot C a b g 9 (C 0 1) = 0 := by
  unfold zboot
  rw [zu_ne (by omega), zu_eq]
theorem zboot_W {C : zC} (hw : zW C) {a b g : Nat} (hq : C 0 1 < 10) (ha : a < C 0 0) (hb : b < C 0 0) (hab : a ≠ b) (hg : g ≤ 99) : zW (zboot C a b g) := by
  obtain ⟨wb, wq, ww1, ww2, wh1, wh2, wo, wm, wB, wQ⟩ := id hw
  have e0 : ∀ i, i ≠ 1 → zboot C a b g 0 i = C 0 i := fun i hi => zboot_ne (by omega) (by omega)
  have e1 : ∀ f i, f ≠ 0 → f < 6 → zboot C a b g f i = C f i := fun f i hi h6 => zboot_ne (by omega) (by omega)
  refine ⟨?_, ?_, ?_, ?_, ?_, ?_, ?_, ?_, fun b1 hb1 => ?_, fun q hq1 => ?_⟩
  · rw [e0 0 (by decide)]; exact wb
  · rw [zboot_q]; omega
  · rw [e0 2 (by decide)]; exact ww1
  · rw [e0 2 (by decide)]; exact ww2
  · rw [e0 3 (by decide)]; exact wh1
  · rw [e0 3 (by decide)]; exact wh2
  · rw [e0 4 (by decide)]; exact wo
  · rw [e0 5 (by decide)]; exact wm
  · rw [e0 0 (by decide)] at hb1
    rw [e1 1 _ (by decide) (by decide), e1 2 _ (by decide) (by decide), e1 3 _ (by decide) (by decide), e1 4 _ (by decide) (by decide), e0 2 (by decide), e0 3 (by decide)]
    exact wB b1 hb1
  · rw [zboot_q] at hq1
    rw [e0 0 (by decide)]
    by_cases e : q = C 0 1
    · subst e
      rw [zboot_6, zboot_7, zboot_8, zboot_9]
      omega
    · rw [zboot_ne (f := 6) (by omega) (by omega), zboot_ne (f := 7) (by omega) (by omega), zboot_ne (f := 8) (by omega) (by omega), zboot_ne (f := 9) (by omega) (by omega)]
      exact wQ q (by omega)
set_option maxRecDepth 20000 in
theorem m_boots {σ : qSg} {C : zC} (h : zM σ 0 C) (hw : zW C) {a b g : Nat} (hg : g < 1000) (ha : a < 8) (hb : b < 8) : qCI 2 285 [qr 139, qi (nI a), qi (nI b), qi (nI g)] σ (fun r σ' => r = qb (decide (a ≠ b ∧ C 0 1 < 10)) ∧ (a ≠ b → C 0 1 < 10 → zM σ' 0 (zboot C a b g)) ∧ (¬ (a ≠ b ∧ C 0 1 < 10) → σ' = σ) ∧ zF zPc σ σ') := by
  obtain ⟨wb, wq, ww1, ww2, wh1, wh2, wo, wm, wB, wQ⟩ := id hw
  refine qCI.of [some (qr 139), some (qi (nI a)), some (qi (nI b)), some (qi (nI g)), none, none] ok_285 (Nat.le_of_ble_eq_true rfl) rfl ?_
  refine qV.go 30 [9999] ok_285 ?_
  simp only [qW_nop, qW_iconst, qW_bipush, qW_iloadn, qW_iload, qW_aloadn, qW_istore, qW_iadd, qW_dup2, qW_iceq, qW_icne, qW_getf, qW_iald, qW_iast, qW_cs1_0, qW_iret1, Nat.reduceAdd, Nat.reduceMul, Nat.reduceBEq, Nat.reduceEqDiff, Nat.reduceLT, Nat.reduceLeDiff, Nat.zero_le, nI_add, nI_mul, nI_cl, qin_eq, qofI, qlg_0, qlg_s, qls_i0, qls_r0, qls_l0, qls_1, qls_2, qkl_i, qkl_r, qkl_l, qkl_n, qIsI_i, qIsL_l, qIsR_r, qint_i, qil_i, qil_r, qil_l, qf4_0, qf4_1, qf4_2, qf4_3, qf2_0, qf2_1, qcs_n, qcs_i, qcs_r, qcs_l, qst_n, qst_c, qJ_0, qJ_st, qJ_go, qfl_I, qfl_Z, qfl_L, qfl_R, qrI_i, qrL_l, qrV_v, qRcv_0, qRcv_s, eq_self, true_and, and_true, true_or, or_true, false_and, and_false, false_or, or_false, ite_true, if_true, if_false, Bool.true_or, Bool.false_or, Bool.or_false, beq_self_eq_true, Bool.false_eq_true, bX12_boots_0, bX12_boots_20, bX12_boots_22, kX12_boots_0, kX12_boots_20, kX12_boots_22, qK_139, qR_139_0, qK_140, qR_139_1, qK_141, qR_139_5, qK_142, qR_139_6, qK_143, qR_139_7, qK_144, qR_139_8, qK_145, qR_139_9, qK_146, qR_139_21, qK_147, qR_139_25, qK_148, qR_139_30, qK_149, qR_139_31, qK_150, qR_139_33, qK_151, qR_139_34, qK_152, qR_139_35, qK_153, qR_139_36, qK_154, qR_139_39, qK_155, qR_139_40, qK_156, qR_139_41, qK_157]
  rw [zM_s h 1 (by decide)]
  simp (disch := omega) only [nI_leI, nI_ltI, nI_eq, nI_cl, qin_eq, nI_add, nI_mul, qb_z, qb_t, qb_f, nI_ne0', Nat.reduceAdd, Bool.false_eq_true, if_false, if_true, true_and, and_true, Nat.reduceEqDiff, not_true_eq_false, not_false_eq_true, false_implies, true_implies, ite_true, ite_false]
  refine ⟨fun h1 => ?_, fun h1 => ⟨fun h2 => ?_, fun h2 => ?_⟩⟩
  · exact ⟨by simp [h1, qb], fun h9 => absurd h1 h9, fun _ => trivial, zF.rf⟩
  · refine qBI.fn (m_quarrelRow σ _) (by decide) ?_
    have hlt : C 0 1 < 10 := by omega
    simp only [nI_add, nI_mul]
    simp (disch := omega) only [nI_leI, nI_ltI, nI_eq, nI_cl, qin_eq, nI_add, nI_mul, qb_z, qb_t, qb_f, nI_ne0', Nat.reduceAdd, Bool.false_eq_true, if_false, if_true, true_and, and_true, Nat.reduceEqDiff, not_true_eq_false, not_false_eq_true, false_implies, true_implies, ite_true, ite_false]
    simp only [qwi_1, true_and]
    rw [if_neg (by omega), if_neg (by omega), if_neg (by omega), if_neg (by omega), zM_s h 1 (by decide)]
    simp (disch := omega) only [nI_leI, nI_ltI, nI_eq, nI_cl, qin_eq, nI_add, nI_mul, qb_z, qb_t, qb_f, nI_ne0', Nat.reduceAdd, Bool.false_eq_true, if_false, if_true, true_and, and_true, Nat.reduceEqDiff, not_true_eq_false, not_false_eq_true, false_implies, true_implies, ite_true, ite_false]
    refine ⟨by simp [h1, hlt, qb], fun _ _ => ?_, fun h9 => absurd ⟨h1, hlt⟩ h9, ?_⟩
    · refine ⟨fun j hj => ?_, fun b1 hb1 f hf => ?_, fun q hq f hf => ?_⟩
      · simp only [qwi_1, true_and]
        by_cases e : j = 1
        · subst e
          rw [if_pos (by omega), zboot_q]
        · rw [if_neg (by omega), if_neg (by omega), if_neg (by omega), if_neg (by omega), if_neg (by omega), h.1 j hj, zboot_ne (by omega) (by omega)]
      · rw [zboot_ne (by omega) (by omega)] at hb1
        simp only [qwi_1, true_and]
        rw [if_neg (by omega), if_neg (by omega), if_neg (by omega), if_neg (by omega), if_neg (by omega), h.2.1 b1 hb1 f hf, zboot_ne (by omega) (by omega)]
      · rw [zboot_q] at hq
        simp only [qwi_1, true_and]
        by_cases e : q = C 0 1
        · subst e
          rcases (show f = 0 ∨ f = 1 ∨ f = 2 ∨ f = 3 by omega) with rfl | rfl | rfl | rfl
          · rw [if_neg (by omega), if_neg (by omega), if_neg (by omega), if_neg (by omega), if_pos (by omega), zboot_6]
          · rw [if_neg (by omega), if_neg (by omega), if_neg (by omega), if_pos (by omega), zboot_7]
          · rw [if_neg (by omega), if_neg (by omega), if_pos (by omega), zboot_8]
          · rw [if_neg (by omega), if_pos (by omega), zboot_9]
        · rw [if_neg (by omega), if_neg (by omega), if_neg (by omega), if_neg (by omega), if_neg (by omega), h.2.2 q (by omega) f hf, zboot_ne (by omega) (by omega)]
    · exact ((((zF.wi (P := zPc) ⟨rfl, by omega⟩).tr (zF.wi ⟨rfl, by omega⟩)).tr (zF.wi ⟨rfl, by omega⟩)).tr (zF.wi ⟨rfl, by omega⟩)).tr (zF.wi ⟨rfl, by omega⟩)
  · exact ⟨by simp [h2, qb], fun _ h9 => absurd h2 (by omega), fun _ => trivial, zF.rf⟩
