/-! the reference's calls: endings, circles, sides, games -/
theorem zlst_le (p : Nat → Bool) : ∀ (f n : Nat), zlst p f n ≤ n + f
  | 0, n => Nat.le_refl _
  | f + 1, n => by
    simp only [zlst]
    split
    · omega
    · have := zlst_le p f (n + 1); omega
theorem zef_0 {C : zC} (hw : zW C) (h : zendsAll C 0 = true) : ∀ s, 0 < s → zef C s = 0
  | 1, _ => by
    have e1 : zef C 1 = if zpop 0 < zpop (2 ^ C 0 0 - 1) ∧ zendsAll C 0 = true then 0 else 2 ^ C 0 0 - 1 := rfl
    rw [e1, zpop_0]
    by_cases e : 2 ^ C 0 0 - 1 = 0
    · rw [e, zpop_0, if_neg (by omega)]
    · have := zpopf_pos 32 (2 ^ C 0 0 - 1) e (by have := zpow_le hw; omega)
      rw [if_pos ⟨this, h⟩]
  | s + 2, _ => by
    have ih := zef_0 hw h (s + 1) (by omega)
    have e1 : zef C (s + 2) = if zpop (s + 1) < zpop (zef C (s + 1)) ∧ zendsAll C (s + 1) = true then s + 1 else zef C (s + 1) := rfl
    rw [e1, ih, zpop_0, if_neg (by omega)]
theorem zending_0 {C : zC} (hw : zW C) (h : zopens C = 0) : zending C = 0 := by
  refine zef_0 hw ?_ _ (Nat.two_pow_pos _)
  unfold zendsAll
  rw [zall_iff]
  intro q hq
  have := bm_bit (C 0 1) (zOpen C) q
  unfold zopens at h
  rw [h, Nat.zero_testBit] at this
  have : zOpen C q = false := by
    cases e : zOpen C q with
    | false => rfl
    | true => rw [e] at this; simp [hq] at this
  rw [this]
  rfl
set_option maxRecDepth 20000 in
theorem M_ending {σ : qSg} {A : zA} (hA : zMA σ A) (hW : zAW A) : qCI 6 323 [qr 139] σ (zCall σ (yEnding A)) := by
  have hM := hA.m
  have hw := hW.w
  have ho := zopens_lt hw
  have he : zending (aC A) < 256 := Nat.lt_of_lt_of_le (zef_lt hw _ (Nat.le_refl _)) (zpow_le hw)
  refine qCI.of [some (qr 139)] ok_323 (Nat.le_of_ble_eq_true rfl) rfl ?_
  refine qV.go 30 [9999] ok_323 ?_
  simp only [qW_nop, qW_iconst, qW_aloadn, qW_ifne, qW_goto, qW_cs1_0, qW_cv1_0, qW_cv2_0, qW_iret0, Nat.reduceAdd, Nat.reduceMul, Nat.reduceBEq, Nat.reduceEqDiff, Nat.reduceLT, Nat.reduceLeDiff, Nat.zero_le, nI_add, nI_mul, nI_cl, qin_eq, qofI, qlg_0, qlg_s, qls_i0, qls_r0, qls_l0, qls_1, qls_2, qkl_i, qkl_r, qkl_l, qkl_n, qIsI_i, qIsL_l, qIsR_r, qint_i, qil_i, qil_r, qil_l, qf4_0, qf4_1, qf4_2, qf4_3, qf2_0, qf2_1, qcs_n, qcs_i, qcs_r, qcs_l, qst_n, qst_c, qJ_0, qJ_st, qJ_go, qfl_I, qfl_Z, qfl_L, qfl_R, qrI_i, qrL_l, qrV_v, qRcv_0, qRcv_s, eq_self, true_and, and_true, true_or, or_true, false_and, and_false, false_or, or_false, ite_true, if_true, if_false, Bool.true_or, Bool.false_or, Bool.or_false, beq_self_eq_true, Bool.false_eq_true, bX12_ending_0, bX12_ending_12, bX12_ending_19, kX12_ending_0, kX12_ending_12, kX12_ending_19, qK_139, qR_139_0, qK_140, qR_139_1, qK_141, qR_139_5, qK_142, qR_139_6, qK_143, qR_139_7, qK_144, qR_139_8, qK_145, qR_139_9, qK_146, qR_139_21, qK_147, qR_139_25, qK_148, qR_139_30, qK_149, qR_139_31, qK_150, qR_139_33, qK_151, qR_139_34, qK_152, qR_139_35, qK_153, qR_139_36, qK_154, qR_139_39, qK_155, qR_139_40, qK_156, qR_139_41, qK_157]
  refine qBI.fn (m_openOnes hM hw) (by decide) ?_
  simp (disch := omega) only [nI_leI, nI_ltI, nI_eq, nI_cl, qin_eq, nI_add, nI_mul, qb_z, qb_t, qb_f, nI_ne0', Nat.reduceAdd, Bool.false_eq_true, if_false, if_true, true_and, and_true, Nat.reduceEqDiff, not_true_eq_false, not_false_eq_true, false_implies, true_implies, ite_true, ite_false]
  refine ⟨fun g => ?_, fun g => ?_⟩
  · refine qBI.fn (m_endingOf hM hw) (by decide) (qBI.fn (m_bits σ (by omega)) (by decide) ?_)
    exact e_ok hA hW zRef.rf (by decide) rfl
  · refine e_ok hA hW zRef.rf (by decide) ?_
    unfold yEnding
    rw [zending_0 hw g, zpop_0]
    rfl
set_option maxRecDepth 20000 in
theorem M_endingSet {σ : qSg} {A : zA} (hA : zMA σ A) (hW : zAW A) : qCI 6 324 [qr 139] σ (zCall σ (yEndingSet A)) := by
  have hM := hA.m
  have hw := hW.w
  have ho := zopens_lt hw
  refine qCI.of [some (qr 139)] ok_324 (Nat.le_of_ble_eq_true rfl) rfl ?_
  refine qV.go 30 [9999] ok_324 ?_
  simp only [qW_nop, qW_iconst, qW_aloadn, qW_ifne, qW_goto, qW_cv1_0, qW_cv2_0, qW_iret0, Nat.reduceAdd, Nat.reduceMul, Nat.reduceBEq, Nat.reduceEqDiff, Nat.reduceLT, Nat.reduceLeDiff, Nat.zero_le, nI_add, nI_mul, nI_cl, qin_eq, qofI, qlg_0, qlg_s, qls_i0, qls_r0, qls_l0, qls_1, qls_2, qkl_i, qkl_r, qkl_l, qkl_n, qIsI_i, qIsL_l, qIsR_r, qint_i, qil_i, qil_r, qil_l, qf4_0, qf4_1, qf4_2, qf4_3, qf2_0, qf2_1, qcs_n, qcs_i, qcs_r, qcs_l, qst_n, qst_c, qJ_0, qJ_st, qJ_go, qfl_I, qfl_Z, qfl_L, qfl_R, qrI_i, qrL_l, qrV_v, qRcv_0, qRcv_s, eq_self, true_and, and_true, true_or, or_true, false_and, and_false, false_or, or_false, ite_true, if_true, if_false, Bool.true_or, Bool.false_or, Bool.or_false, beq_self_eq_true, Bool.false_eq_true, bX12_endingSet_0, bX12_endingSet_12, bX12_endingSet_16, kX12_endingSet_0, kX12_endingSet_12, kX12_endingSet_16, qK_139, qR_139_0, qK_140, qR_139_1, qK_141, qR_139_5, qK_142, qR_139_6, qK_143, qR_139_7, qK_144, qR_139_8, qK_145, qR_139_9, qK_146, qR_139_21, qK_147, qR_139_25, qK_148, qR_139_30, qK_149, qR_139_31, qK_150, qR_139_33, qK_151, qR_139_34, qK_152, qR_139_35, qK_153, qR_139_36, qK_154, qR_139_39, qK_155, qR_139_40, qK_156, qR_139_41, qK_157]
  refine qBI.fn (m_openOnes hM hw) (by decide) ?_
  simp (disch := omega) only [nI_leI, nI_ltI, nI_eq, nI_cl, qin_eq, nI_add, nI_mul, qb_z, qb_t, qb_f, nI_ne0', Nat.reduceAdd, Bool.false_eq_true, if_false, if_true, true_and, and_true, Nat.reduceEqDiff, not_true_eq_false, not_false_eq_true, false_implies, true_implies, ite_true, ite_false]
  refine ⟨fun g => ?_, fun g => ?_⟩
  · exact qBI.fn (m_endingOf hM hw) (by decide) (e_ok hA hW zRef.rf (by decide) rfl)
  · refine e_ok hA hW zRef.rf (by decide) ?_
    unfold yEndingSet
    rw [zending_0 hw g]
    rfl
set_option maxRecDepth 20000 in
theorem M_apart {σ : qSg} {A : zA} (hA : zMA σ A) (hW : zAW A) : qCI 6 326 [qr 139] σ (zCall σ (yApart A)) := by
  have hM := hA.m
  have hw := hW.w
  have he : zapart (aC A) < 1024 := Nat.lt_of_lt_of_le (zaf_lt hw _ (Nat.le_refl _)) (zpow_le2 hw)
  refine qCI.of [some (qr 139)] ok_326 (Nat.le_of_ble_eq_true rfl) rfl ?_
  refine qV.go 30 [9999] ok_326 ?_
  simp only [qW_nop, qW_aloadn, qW_cs1_0, qW_cv1_0, qW_cv2_0, qW_iret0, Nat.reduceAdd, Nat.reduceMul, Nat.reduceBEq, Nat.reduceEqDiff, Nat.reduceLT, Nat.reduceLeDiff, Nat.zero_le, nI_add, nI_mul, nI_cl, qin_eq, qofI, qlg_0, qlg_s, qls_i0, qls_r0, qls_l0, qls_1, qls_2, qkl_i, qkl_r, qkl_l, qkl_n, qIsI_i, qIsL_l, qIsR_r, qint_i, qil_i, qil_r, qil_l, qf4_0, qf4_1, qf4_2, qf4_3, qf2_0, qf2_1, qcs_n, qcs_i, qcs_r, qcs_l, qst_n, qst_c, qJ_0, qJ_st, qJ_go, qfl_I, qfl_Z, qfl_L, qfl_R, qrI_i, qrL_l, qrV_v, qRcv_0, qRcv_s, eq_self, true_and, and_true, true_or, or_true, false_and, and_false, false_or, or_false, ite_true, if_true, if_false, Bool.true_or, Bool.false_or, Bool.or_false, beq_self_eq_true, Bool.false_eq_true, bX12_apart_0, kX12_apart_0, qK_139, qR_139_0, qK_140, qR_139_1, qK_141, qR_139_5, qK_142, qR_139_6, qK_143, qR_139_7, qK_144, qR_139_8, qK_145, qR_139_9, qK_146, qR_139_21, qK_147, qR_139_25, qK_148, qR_139_30, qK_149, qR_139_31, qK_150, qR_139_33, qK_151, qR_139_34, qK_152, qR_139_35, qK_153, qR_139_36, qK_154, qR_139_39, qK_155, qR_139_40, qK_156, qR_139_41, qK_157]
  exact qBI.fn (m_apartOnes hM hw) (by decide) (qBI.fn (m_bits σ (by omega)) (by decide) (e_ok hA hW zRef.rf (by decide) rfl))
set_option maxRecDepth 20000 in
theorem M_apartSet {σ : qSg} {A : zA} (hA : zMA σ A) (hW : zAW A) : qCI 6 327 [qr 139] σ (zCall σ (yApartSet A)) := by
  have hM := hA.m
  have hw := hW.w
  refine qCI.of [some (qr 139)] ok_327 (Nat.le_of_ble_eq_true rfl) rfl ?_
  refine qV.go 30 [9999] ok_327 ?_
  simp only [qW_nop, qW_aloadn, qW_cv1_0, qW_cv2_0, qW_iret0, Nat.reduceAdd, Nat.reduceMul, Nat.reduceBEq, Nat.reduceEqDiff, Nat.reduceLT, Nat.reduceLeDiff, Nat.zero_le, nI_add, nI_mul, nI_cl, qin_eq, qofI, qlg_0, qlg_s, qls_i0, qls_r0, qls_l0, qls_1, qls_2, qkl_i, qkl_r, qkl_l, qkl_n, qIsI_i, qIsL_l, qIsR_r, qint_i, qil_i, qil_r, qil_l, qf4_0, qf4_1, qf4_2, qf4_3, qf2_0, qf2_1, qcs_n, qcs_i, qcs_r, qcs_l, qst_n, qst_c, qJ_0, qJ_st, qJ_go, qfl_I, qfl_Z, qfl_L, qfl_R, qrI_i, qrL_l, qrV_v, qRcv_0, qRcv_s, eq_self, true_and, and_true, true_or, or_true, false_and, and_false, false_or, or_false, ite_true, if_true, if_false, Bool.true_or, Bool.false_or, Bool.or_false, beq_self_eq_true, Bool.false_eq_true, bX12_apartSet_0, kX12_apartSet_0, qK_139, qR_139_0, qK_140, qR_139_1, qK_141, qR_139_5, qK_142, qR_139_6, qK_143, qR_139_7, qK_144, qR_139_8, qK_145, qR_139_9, qK_146, qR_139_21, qK_147, qR_139_25, qK_148, qR_139_30, qK_149, qR_139_31, qK_150, qR_139_33, qK_151, qR_139_34, qK_152, qR_139_35, qK_153, qR_139_36, qK_154, qR_139_39, qK_155, qR_139_40, qK_156, qR_139_41, qK_157]
  exact qBI.fn (m_apartOnes hM hw) (by decide) (e_ok hA hW zRef.rf (by decide) rfl)
set_option maxRecDepth 20000 in
theorem M_circle {σ : qSg} {A : zA} (hA : zMA σ A) (hW : zAW A) (b : Int32) : qCI 5 329 [qr 139, qi b] σ (zCall σ (yCircle A b)) := by
  have hM := hA.m
  have hw := hW.w
  have wb := hw.1
  refine qCI.of [some (qr 139), some (qi b)] ok_329 (Nat.le_of_ble_eq_true rfl) rfl ?_
  refine qV.go 30 [9999] ok_329 ?_
  simp only [qW_nop, qW_iconst, qW_iloadn, qW_aloadn, qW_i2l, qW_ifeq, qW_goto, qW_cv2_0, qW_iret0, Nat.reduceAdd, Nat.reduceMul, Nat.reduceBEq, Nat.reduceEqDiff, Nat.reduceLT, Nat.reduceLeDiff, Nat.zero_le, nI_add, nI_mul, nI_cl, qin_eq, qofI, qlg_0, qlg_s, qls_i0, qls_r0, qls_l0, qls_1, qls_2, qkl_i, qkl_r, qkl_l, qkl_n, qIsI_i, qIsL_l, qIsR_r, qint_i, qil_i, qil_r, qil_l, qf4_0, qf4_1, qf4_2, qf4_3, qf2_0, qf2_1, qcs_n, qcs_i, qcs_r, qcs_l, qst_n, qst_c, qJ_0, qJ_st, qJ_go, qfl_I, qfl_Z, qfl_L, qfl_R, qrI_i, qrL_l, qrV_v, qRcv_0, qRcv_s, eq_self, true_and, and_true, true_or, or_true, false_and, and_false, false_or, or_false, ite_true, if_true, if_false, Bool.true_or, Bool.false_or, Bool.or_false, beq_self_eq_true, Bool.false_eq_true, bX12_circle_0, bX12_circle_21, bX12_circle_26, kX12_circle_0, kX12_circle_21, kX12_circle_26, qK_139, qR_139_0, qK_140, qR_139_1, qK_141, qR_139_5, qK_142, qR_139_6, qK_143, qR_139_7, qK_144, qR_139_8, qK_145, qR_139_9, qK_146, qR_139_21, qK_147, qR_139_25, qK_148, qR_139_30, qK_149, qR_139_31, qK_150, qR_139_33, qK_151, qR_139_34, qK_152, qR_139_35, qK_153, qR_139_36, qK_154, qR_139_39, qK_155, qR_139_40, qK_156, qR_139_41, qK_157]
  refine qBI.fn (m_isBoy hM hw _) (by decide) ?_
  rw [zrl_i]
  simp (disch := omega) only [nI_leI, nI_ltI, nI_eq, nI_cl, qin_eq, nI_add, nI_mul, qb_z, qb_t, qb_f, nI_ne0', Nat.reduceAdd, Bool.false_eq_true, if_false, if_true, true_and, and_true, Nat.reduceEqDiff, not_true_eq_false, not_false_eq_true, false_implies, true_implies, ite_true, ite_false]
  refine ⟨fun g => e_no hA hW zRef.rf (by decide) (by unfold yCircle; rw [if_pos g]; rfl), fun g => ?_⟩
  have g : zrg b (aC A 0 0) = true := by simpa using g
  obtain ⟨i, hi, rfl⟩ := zrg_nI g
  exact qBI.fn (m_circleOf hM hw hi) (by decide) (e_ok hA hW zRef.rf (by decide) (by unfold yCircle; rw [if_neg (by rw [g]; decide), nI_tn (by omega)]; rfl))
theorem zcq_bit {C : zC} {s b : Nat} (h : s.testBit b = true) : ∀ q, (zcq C s q).testBit b = true
  | 0 => h
  | q + 1 => by
    have ih := zcq_bit (C := C) h q
    simp only [zcq]
    split
    · rw [Nat.testBit_or, ih]; rfl
    · exact ih
theorem zcr_bit (C : zC) (b : Nat) : ∀ n, (zcr C b n).testBit b = true
  | 0 => by show (2 ^ b).testBit b = true; rw [Nat.testBit_two_pow]; simp
  | n + 1 => zcq_bit (zcr_bit C b n) _
theorem zlow_spec {s b : Nat} (hb : b < 31) (h : s.testBit b = true) : zlow s ≤ b ∧ s.testBit (zlow s) = true ∧ ∀ j, j < zlow s → s.testBit j = false := by
  have := zlst_spec (fun k => s.testBit k) 31 0 b (by omega) (by omega) h
  exact ⟨this.2.1, this.2.2.1, fun j hj => this.2.2.2 j (by omega) hj⟩
set_option maxRecDepth 20000 in
theorem M_circles {σ : qSg} {A : zA} (hA : zMA σ A) (hW : zAW A) : qCI 5 330 [qr 139] σ (zCall σ (yCircles A)) := by
  have hM := hA.m
  have hw := hW.w
  have wb := hw.1
  refine qCI.of [some (qr 139), none, none] ok_330 (Nat.le_of_ble_eq_true rfl) rfl ?_
  refine qV.go 30 [4] ok_330 ?_
  simp only [qW_nop, qW_iconst, qW_iloadn, qW_aloadn, qW_istoren, qW_iinc, qW_iadd, qW_icne, qW_icge, qW_goto, qW_getf, qW_iald, qW_cs1_0, qW_cv2_0, qW_iret0, Nat.reduceAdd, Nat.reduceMul, Nat.reduceBEq, Nat.reduceEqDiff, Nat.reduceLT, Nat.reduceLeDiff, Nat.zero_le, nI_add, nI_mul, nI_cl, qin_eq, qofI, qlg_0, qlg_s, qls_i0, qls_r0, qls_l0, qls_1, qls_2, qkl_i, qkl_r, qkl_l, qkl_n, qIsI_i, qIsL_l, qIsR_r, qint_i, qil_i, qil_r, qil_l, qf4_0, qf4_1, qf4_2, qf4_3, qf2_0, qf2_1, qcs_n, qcs_i, qcs_r, qcs_l, qst_n, qst_c, qJ_0, qJ_st, qJ_go, qfl_I, qfl_Z, qfl_L, qfl_R, qrI_i, qrL_l, qrV_v, qRcv_0, qRcv_s, eq_self, true_and, and_true, true_or, or_true, false_and, and_false, false_or, or_false, ite_true, if_true, if_false, Bool.true_or, Bool.false_or, Bool.or_false, beq_self_eq_true, Bool.false_eq_true, bX12_circles_0, bX12_circles_4, bX12_circles_31, bX12_circles_32, bX12_circles_40, kX12_circles_0, kX12_circles_4, kX12_circles_31, kX12_circles_32, kX12_circles_40, qK_139, qR_139_0, qK_140, qR_139_1, qK_141, qR_139_5, qK_142, qR_139_6, qK_143, qR_139_7, qK_144, qR_139_8, qK_145, qR_139_9, qK_146, qR_139_21, qK_147, qR_139_25, qK_148, qR_139_30, qK_149, qR_139_31, qK_150, qR_139_33, qK_151, qR_139_34, qK_152, qR_139_35, qK_153, qR_139_36, qK_154, qR_139_39, qK_155, qR_139_40, qK_156, qR_139_41, qK_157]
  refine qdown (n := aC A 0 0) (P := fun q => qV 330 5 (.inl (zCall σ (yCircles A))) 4 [some (qr 139), some (qi (nI (zcount (fun b => decide (zlow (zcircle (aC A) b) = b)) q))), some (qi (nI q))] [] σ) (fun q hq ih => ?_) 0 (Nat.zero_le _)
  refine qV.go 30 [4] ok_330 ?_
  simp only [qW_nop, qW_iconst, qW_iloadn, qW_aloadn, qW_istoren, qW_iinc, qW_iadd, qW_icne, qW_icge, qW_goto, qW_getf, qW_iald, qW_cs1_0, qW_cv2_0, qW_iret0, Nat.reduceAdd, Nat.reduceMul, Nat.reduceBEq, Nat.reduceEqDiff, Nat.reduceLT, Nat.reduceLeDiff, Nat.zero_le, nI_add, nI_mul, nI_cl, qin_eq, qofI, qlg_0, qlg_s, qls_i0, qls_r0, qls_l0, qls_1, qls_2, qkl_i, qkl_r, qkl_l, qkl_n, qIsI_i, qIsL_l, qIsR_r, qint_i, qil_i, qil_r, qil_l, qf4_0, qf4_1, qf4_2, qf4_3, qf2_0, qf2_1, qcs_n, qcs_i, qcs_r, qcs_l, qst_n, qst_c, qJ_0, qJ_st, qJ_go, qfl_I, qfl_Z, qfl_L, qfl_R, qrI_i, qrL_l, qrV_v, qRcv_0, qRcv_s, eq_self, true_and, and_true, true_or, or_true, false_and, and_false, false_or, or_false, ite_true, if_true, if_false, Bool.true_or, Bool.false_or, Bool.or_false, beq_self_eq_true, Bool.false_eq_true, bX12_circles_0, bX12_circles_4, bX12_circles_31, bX12_circles_32, bX12_circles_40, kX12_circles_0, kX12_circles_4, kX12_circles_31, kX12_circles_32, kX12_circles_40, qK_139, qR_139_0, qK_140, qR_139_1, qK_141, qR_139_5, qK_142, qR_139_6, qK_143, qR_139_7, qK_144, qR_139_8, qK_145, qR_139_9, qK_146, qR_139_21, qK_147, qR_139_25, qK_148, qR_139_30, qK_149, qR_139_31, qK_150, qR_139_33, qK_151, qR_139_34, qK_152, qR_139_35, qK_153, qR_139_36, qK_154, qR_139_39, qK_155, qR_139_40, qK_156, qR_139_41, qK_157]
  rw [zM_s hM 0 (by decide)]
  simp (disch := omega) only [nI_leI, nI_ltI, nI_eq, nI_cl, qin_eq, nI_add, nI_mul, qb_z, qb_t, qb_f, nI_ne0', Nat.reduceAdd, Bool.false_eq_true, if_false, if_true, true_and, and_true, Nat.reduceEqDiff, not_true_eq_false, not_false_eq_true, false_implies, true_implies, ite_true, ite_false]
  refine ⟨fun g => ?_, fun g => ?_⟩
  · have : q = aC A 0 0 := by omega
    subst this
    exact e_ok hA hW zRef.rf (by decide) rfl
  · have hq1 : q < aC A 0 0 := by omega
    have hb := zcr_bit (aC A) q 8
    have hs := zlow_spec (s := zcircle (aC A) q) (b := q) (by omega) hb
    have hl : zcircle (aC A) q < 256 := zcr_lt hw hq1 8
    refine qBI.fn (m_circleOf hM hw hq1) (by decide) (qBI.fn (m_firstOf σ (by omega) _ (by omega) hs.2.1 hs.2.2) (by decide) ?_)
    have := ih hq1
    simp only [zcount] at this
    have hc := zcount_le (fun b => decide (zlow (zcircle (aC A) b) = b)) q
    simp (disch := omega) only [nI_leI, nI_ltI, nI_eq, nI_cl, qin_eq, nI_add, nI_mul, qb_z, qb_t, qb_f, nI_ne0', Nat.reduceAdd, Bool.false_eq_true, if_false, if_true, true_and, and_true, Nat.reduceEqDiff, not_true_eq_false, not_false_eq_true, false_implies, true_implies, ite_true, ite_false]
    refine ⟨fun h => ?_, fun h => ?_⟩
    · rw [if_neg (by simpa using h)] at this
      exact this
    · rw [if_pos (by simpa using h)] at this
      exact this
set_option maxRecDepth 20000 in
theorem M_sides {σ : qSg} {A : zA} (hA : zMA σ A) (hW : zAW A) : qCI 5 332 [qr 139] σ (zCall σ (ySides A)) := by
  have hM := hA.m
  have hw := hW.w
  have hp := Nat.two_pow_pos (aC A 0 0)
  have hp2 := zpow_le hw
  refine qCI.of [some (qr 139), none] ok_332 (Nat.le_of_ble_eq_true rfl) rfl ?_
  refine qV.go 30 [2] ok_332 ?_
  simp only [qW_nop, qW_iconst, qW_bipush, qW_iloadn, qW_aloadn, qW_istoren, qW_iinc, qW_ifeq, qW_icgt, qW_goto, qW_cv1_0, qW_cv2_0, qW_iret0, Nat.reduceAdd, Nat.reduceMul, Nat.reduceBEq, Nat.reduceEqDiff, Nat.reduceLT, Nat.reduceLeDiff, Nat.zero_le, nI_add, nI_mul, nI_cl, qin_eq, qofI, qlg_0, qlg_s, qls_i0, qls_r0, qls_l0, qls_1, qls_2, qkl_i, qkl_r, qkl_l, qkl_n, qIsI_i, qIsL_l, qIsR_r, qint_i, qil_i, qil_r, qil_l, qf4_0, qf4_1, qf4_2, qf4_3, qf2_0, qf2_1, qcs_n, qcs_i, qcs_r, qcs_l, qst_n, qst_c, qJ_0, qJ_st, qJ_go, qfl_I, qfl_Z, qfl_L, qfl_R, qrI_i, qrL_l, qrV_v, qRcv_0, qRcv_s, eq_self, true_and, and_true, true_or, or_true, false_and, and_false, false_or, or_false, ite_true, if_true, if_false, Bool.true_or, Bool.false_or, Bool.or_false, beq_self_eq_true, Bool.false_eq_true, bX12_sides_0, bX12_sides_2, bX12_sides_24, bX12_sides_30, kX12_sides_0, kX12_sides_2, kX12_sides_24, kX12_sides_30, qK_139, qR_139_0, qK_140, qR_139_1, qK_141, qR_139_5, qK_142, qR_139_6, qK_143, qR_139_7, qK_144, qR_139_8, qK_145, qR_139_9, qK_146, qR_139_21, qK_147, qR_139_25, qK_148, qR_139_30, qK_149, qR_139_31, qK_150, qR_139_33, qK_151, qR_139_34, qK_152, qR_139_35, qK_153, qR_139_36, qK_154, qR_139_39, qK_155, qR_139_40, qK_156, qR_139_41, qK_157]
  refine qdown (n := 2 ^ aC A 0 0) (P := fun s => (∀ t, t < s → zside (aC A) t = false) → qV 332 5 (.inl (zCall σ (ySides A))) 2 [some (qr 139), some (qi (nI s))] [] σ) (fun s hs ih => ?_) 0 (Nat.zero_le _) (fun t ht => absurd ht (Nat.not_lt_zero _))
  intro hn
  refine qV.go 30 [2] ok_332 ?_
  simp only [qW_nop, qW_iconst, qW_bipush, qW_iloadn, qW_aloadn, qW_istoren, qW_iinc, qW_ifeq, qW_icgt, qW_goto, qW_cv1_0, qW_cv2_0, qW_iret0, Nat.reduceAdd, Nat.reduceMul, Nat.reduceBEq, Nat.reduceEqDiff, Nat.reduceLT, Nat.reduceLeDiff, Nat.zero_le, nI_add, nI_mul, nI_cl, qin_eq, qofI, qlg_0, qlg_s, qls_i0, qls_r0, qls_l0, qls_1, qls_2, qkl_i, qkl_r, qkl_l, qkl_n, qIsI_i, qIsL_l, qIsR_r, qint_i, qil_i, qil_r, qil_l, qf4_0, qf4_1, qf4_2, qf4_3, qf2_0, qf2_1, qcs_n, qcs_i, qcs_r, qcs_l, qst_n, qst_c, qJ_0, qJ_st, qJ_go, qfl_I, qfl_Z, qfl_L, qfl_R, qrI_i, qrL_l, qrV_v, qRcv_0, qRcv_s, eq_self, true_and, and_true, true_or, or_true, false_and, and_false, false_or, or_false, ite_true, if_true, if_false, Bool.true_or, Bool.false_or, Bool.or_false, beq_self_eq_true, Bool.false_eq_true, bX12_sides_0, bX12_sides_2, bX12_sides_24, bX12_sides_30, kX12_sides_0, kX12_sides_2, kX12_sides_24, kX12_sides_30, qK_139, qR_139_0, qK_140, qR_139_1, qK_141, qR_139_5, qK_142, qR_139_6, qK_143, qR_139_7, qK_144, qR_139_8, qK_145, qR_139_9, qK_146, qR_139_21, qK_147, qR_139_25, qK_148, qR_139_30, qK_149, qR_139_31, qK_150, qR_139_33, qK_151, qR_139_34, qK_152, qR_139_35, qK_153, qR_139_36, qK_154, qR_139_39, qK_155, qR_139_40, qK_156, qR_139_41, qK_157]
  refine qBI.fn (m_everybody hM hw) (by decide) ?_
  simp (disch := omega) only [nI_leI, nI_ltI, nI_eq, nI_cl, qin_eq, nI_add, nI_mul, qb_z, qb_t, qb_f, nI_ne0', Nat.reduceAdd, Bool.false_eq_true, if_false, if_true, true_and, and_true, Nat.reduceEqDiff, not_true_eq_false, not_false_eq_true, false_implies, true_implies, ite_true, ite_false]
  refine ⟨fun g => ?_, fun g => ?_⟩
  · have : s = 2 ^ aC A 0 0 := by omega
    subst this
    have e : zsidef (aC A) = 2 ^ aC A 0 0 := by
      unfold zsidef
      rw [zlst_no _ _ _ (fun m _ h2 => hn m (by omega)), Nat.zero_add]
    exact e_no hA hW zRef.rf (by decide) (by unfold ySides; rw [if_pos e]; rfl)
  · refine qBI.fn (m_isSide hM hw (s := s) (by omega)) (by decide) ?_
    simp (disch := omega) only [nI_leI, nI_ltI, nI_eq, nI_cl, qin_eq, nI_add, nI_mul, qb_z, qb_t, qb_f, nI_ne0', Nat.reduceAdd, Bool.false_eq_true, if_false, if_true, true_and, and_true, Nat.reduceEqDiff, not_true_eq_false, not_false_eq_true, false_implies, true_implies, ite_true, ite_false]
    refine ⟨fun h => ih (by omega) (fun t ht => ?_), fun h => ?_⟩
    · by_cases e : t = s
      · subst e; exact h
      · exact hn t (by omega)
    · have h : zside (aC A) s = true := by simpa using h
      have e : zsidef (aC A) = s := zlst_is _ _ _ _ (Nat.zero_le _) (by omega) h (fun m _ h2 => hn m h2)
      exact e_ok hA hW zRef.rf (by decide) (by unfold ySides; rw [if_neg (by omega), e]; rfl)
/-- scratch cells and the camp's own cells change -/
theorem zMA.m2 {σ σ' : qSg} {A : zA} {P : Nat → Nat → Prop} {C : zC} (h : zMA σ A) (hW : zAW A) (f : zF P σ σ') (hP : ∀ a j, P a j → 139 ≤ a ∧ (zPm a j ∨ ¬ zKp a j)) (hM : zM σ' 0 C) (hC : C 0 0 = aC A 0 0) (hq : C 0 1 ≤ 10) (hW2 : zAW (sC A C)) : zMA σ' (sC A C) ∧ zRef σ σ' := by
  have wb := hW.w.1
  have f1 : zF zPm σ (fun a j => if (a = 140 ∧ j < 88 ∧ j ≠ 6) ∨ (a = 139 ∧ j = 24) then σ'.1 a j else σ.1 a j, σ.2) := ⟨fun a j hn => if_neg hn, rfl⟩
  have m1 : zM (fun a j => if (a = 140 ∧ j < 88 ∧ j ≠ 6) ∨ (a = 139 ∧ j = 24) then σ'.1 a j else σ.1 a j, σ.2) 0 C := hM.kp6 (by omega) hq (fun j h1 h2 => if_pos (Or.inl ⟨rfl, by omega, by omega⟩))
  have := h.c hW f1 m1 hC
  refine ⟨this.sm hW2 ⟨fun a j hk => ?_, fun a j _ => by rw [f.2]⟩, zRef.f f fun a j hp => (hP a j hp).1⟩
  show σ'.1 a j = if (a = 140 ∧ j < 88 ∧ j ≠ 6) ∨ (a = 139 ∧ j = 24) then σ'.1 a j else σ.1 a j
  split
  · rfl
  · next hn => exact f.1 a j fun hp => ((hP a j hp).2).elim (fun h1 => hn h1) (fun h1 => h1 hk)
theorem zPgg_s (a j : Nat) (h : zPgg a j) : 139 ≤ a ∧ (zPm a j ∨ ¬ zKp a j) := by unfold zPgg at h; unfold zPm zKp; omega
set_option maxRecDepth 20000 in
theorem M_game {σ : qSg} {A : zA} (hA : zMA σ A) (hW : zAW A) (n : Int32) : qCI 10 348 [qr 139, qi n] σ (zCall σ (yGame A n)) := by
  have hM := hA.m
  have hw := hW.w
  have h5 : aC A 0 5 ≤ 9999 := hW.1.2.1
  refine qCI.of [some (qr 139), some (qi n)] ok_348 (Nat.le_of_ble_eq_true rfl) rfl ?_
  refine qV.go 30 [9999] ok_348 ?_
  simp only [qW_nop, qW_iconst, qW_ldc2, qW_lconst, qW_iloadn, qW_aloadn, qW_i2l, qW_ifeq, qW_goto, qW_cs3_0, qW_cv2_0, qW_iret0, Nat.reduceAdd, Nat.reduceMul, Nat.reduceBEq, Nat.reduceEqDiff, Nat.reduceLT, Nat.reduceLeDiff, Nat.zero_le, nI_add, nI_mul, nI_cl, qin_eq, qofI, qlg_0, qlg_s, qls_i0, qls_r0, qls_l0, qls_1, qls_2, qkl_i, qkl_r, qkl_l, qkl_n, qIsI_i, qIsL_l, qIsR_r, qint_i, qil_i, qil_r, qil_l, qf4_0, qf4_1, qf4_2, qf4_3, qf2_0, qf2_1, qcs_n, qcs_i, qcs_r, qcs_l, qst_n, qst_c, qJ_0, qJ_st, qJ_go, qfl_I, qfl_Z, qfl_L, qfl_R, qrI_i, qrL_l, qrV_v, qRcv_0, qRcv_s, eq_self, true_and, and_true, true_or, or_true, false_and, and_false, false_or, or_false, ite_true, if_true, if_false, Bool.true_or, Bool.false_or, Bool.or_false, beq_self_eq_true, Bool.false_eq_true, bX12_game_0, bX12_game_24, bX12_game_29, kX12_game_0, kX12_game_24, kX12_game_29, qK_139, qR_139_0, qK_140, qR_139_1, qK_141, qR_139_5, qK_142, qR_139_6, qK_143, qR_139_7, qK_144, qR_139_8, qK_145, qR_139_9, qK_146, qR_139_21, qK_147, qR_139_25, qK_148, qR_139_30, qK_149, qR_139_31, qK_150, qR_139_33, qK_151, qR_139_34, qK_152, qR_139_35, qK_153, qR_139_36, qK_154, qR_139_39, qK_155, qR_139_40, qK_156, qR_139_41, qK_157]
  refine qBI.fn (m_isFrom' σ _ (lo := 0) (hi := 3) (by decide) (by decide)) (by decide) ?_
  rw [zlh_i]
  simp (disch := omega) only [nI_leI, nI_ltI, nI_eq, nI_cl, qin_eq, nI_add, nI_mul, qb_z, qb_t, qb_f, nI_ne0', Nat.reduceAdd, Bool.false_eq_true, if_false, if_true, true_and, and_true, Nat.reduceEqDiff, not_true_eq_false, not_false_eq_true, false_implies, true_implies, ite_true, ite_false]
  refine ⟨fun g => e_no hA hW zRef.rf (by decide) (by unfold yGame; rw [if_pos g]; rfl), fun g => ?_⟩
  have g : zih n 0 3 = true := by simpa using g
  obtain ⟨i, -, hi, rfl⟩ := zih_nI g
  refine qBI.of (m_playing hM hw (by omega) hi) (by decide) (fun r σ1 h1 => ?_)
  obtain ⟨rfl, a1, -, f1⟩ := h1
  have S := hA.m2 hW f1 zPgg_s a1 rfl hw.2.1 hW
  exact e_ok S.1 hW S.2 (by decide) (by unfold yGame; rw [if_neg (by rw [g]; decide), nI_tn (by omega)]; rfl)
set_option maxRecDepth 20000 in
theorem M_moveOf {σ : qSg} {A : zA} (hA : zMA σ A) (hW : zAW A) (n : Int32) : qCI 10 349 [qr 139, qi n] σ (zCall σ (yMoveOf A n)) := by
  have hM := hA.m
  have hw := hW.w
  have wq := hw.2.1
  have h5 : aC A 0 5 ≤ 9999 := hW.1.2.1
  refine qCI.of [some (qr 139), some (qi n)] ok_349 (Nat.le_of_ble_eq_true rfl) rfl ?_
  refine qV.go 30 [9999] ok_349 ?_
  simp only [qW_nop, qW_iconst, qW_bipush, qW_ldc2, qW_lconst, qW_iloadn, qW_aloadn, qW_i2l, qW_pop, qW_ifne, qW_icne, qW_goto, qW_getf, qW_iald, qW_cs3_0, qW_cv2_0, qW_iret0, Nat.reduceAdd, Nat.reduceMul, Nat.reduceBEq, Nat.reduceEqDiff, Nat.reduceLT, Nat.reduceLeDiff, Nat.zero_le, nI_add, nI_mul, nI_cl, qin_eq, qofI, qlg_0, qlg_s, qls_i0, qls_r0, qls_l0, qls_1, qls_2, qkl_i, qkl_r, qkl_l, qkl_n, qIsI_i, qIsL_l, qIsR_r, qint_i, qil_i, qil_r, qil_l, qf4_0, qf4_1, qf4_2, qf4_3, qf2_0, qf2_1, qcs_n, qcs_i, qcs_r, qcs_l, qst_n, qst_c, qJ_0, qJ_st, qJ_go, qfl_I, qfl_Z, qfl_L, qfl_R, qrI_i, qrL_l, qrV_v, qRcv_0, qRcv_s, eq_self, true_and, and_true, true_or, or_true, false_and, and_false, false_or, or_false, ite_true, if_true, if_false, Bool.true_or, Bool.false_or, Bool.or_false, beq_self_eq_true, Bool.false_eq_true, bX12_moveOf_0, bX12_moveOf_18, bX12_moveOf_48, bX12_moveOf_58, kX12_moveOf_0, kX12_moveOf_18, kX12_moveOf_48, kX12_moveOf_58, qK_139, qR_139_0, qK_140, qR_139_1, qK_141, qR_139_5, qK_142, qR_139_6, qK_143, qR_139_7, qK_144, qR_139_8, qK_145, qR_139_9, qK_146, qR_139_21, qK_147, qR_139_25, qK_148, qR_139_30, qK_149, qR_139_31, qK_150, qR_139_33, qK_151, qR_139_34, qK_152, qR_139_35, qK_153, qR_139_36, qK_154, qR_139_39, qK_155, qR_139_40, qK_156, qR_139_41, qK_157]
  refine qBI.fn (m_isFrom' σ _ (lo := 1) (hi := 3) (by decide) (by decide)) (by decide) ?_
  rw [zlh_i]
  simp (disch := omega) only [nI_leI, nI_ltI, nI_eq, nI_cl, qin_eq, nI_add, nI_mul, qb_z, qb_t, qb_f, nI_ne0', Nat.reduceAdd, Bool.false_eq_true, if_false, if_true, true_and, and_true, Nat.reduceEqDiff, not_true_eq_false, not_false_eq_true, false_implies, true_implies, ite_true, ite_false]
  refine ⟨fun g => ?_, fun g => e_no hA hW zRef.rf (by decide) (by unfold yMoveOf; rw [if_pos g]; rfl)⟩
  have g : zih n 1 3 = true := by simpa using g
  obtain ⟨i, h1, hi, rfl⟩ := zih_nI g
  have eY : yMoveOf A (nI i) = match zmove (i - 1) 0 (aC A) with
    | none => yNo A 6
    | some s => if s.1 = aC A 0 1 then yNo A 6 else yOk A (nI s.1) := by
    unfold yMoveOf
    rw [if_neg (by rw [g]; decide), nI_tn (by omega)]
    cases zmove (i - 1) 0 (aC A) <;> rfl
  rw [eY]
  refine qBI.of (m_playing hM hw (by omega) hi) (by decide) (fun r σ1 h2 => ?_)
  obtain ⟨-, a1, a2, f1⟩ := h2
  have S := hA.m2 hW f1 zPgg_s a1 rfl hw.2.1 hW
  have a3 := a2 (by omega)
  obtain ⟨s, hs⟩ : ∃ s, zmove (i - 1) 0 (aC A) = some s := zfold_some (by unfold zdok; simp)
  have hb := zfold_bd (M := 130) (aC A 0 1 + 1) (fun k hk => zplay_bd (i - 1) 1 (zdeed_W hw (by omega)) (by rw [zdeed_q _ _ _ _ _ (by decide) (by decide)]; omega)) s hs
  rw [hs] at a3 ⊢
  obtain ⟨b1, b2⟩ := a3
  rw [b1, zM_s a1 1 (by decide)]
  simp (disch := omega) only [nI_leI, nI_ltI, nI_eq, nI_cl, qin_eq, nI_add, nI_mul, qb_z, qb_t, qb_f, nI_ne0', Nat.reduceAdd, Bool.false_eq_true, if_false, if_true, true_and, and_true, Nat.reduceEqDiff, not_true_eq_false, not_false_eq_true, false_implies, true_implies, ite_true, ite_false]
  refine ⟨fun h => ?_, fun h => ?_⟩
  · exact e_ok S.1 hW S.2 (by decide) (if_neg h)
  · exact e_no S.1 hW S.2 (by decide) (if_pos h)
