/-! the class's calls: what to do -/
theorem iI_nn {z : Int} (h : 0 ≤ z) : iI z = nI z.toNat := by rw [iI_nat, Int.toNat_of_nonneg h]
def zss (A : zA) (k : Int32) : Nat := if zih k 0 4 = false then 1 else if aC A 0 0 < k.toInt.toNat then 6 else 0
theorem zss_lt (A : zA) (k : Int32) : zss A k < 10 := by
  unfold zss
  split
  · omega
  · split <;> omega
theorem zPpl_s (a j : Nat) (h : zPpl a j) : a < 139 ∧ ¬ zXp1 a j := by unfold zPpl at h; unfold zXp1; omega
theorem zRpl_s (a j : Nat) (h : zRpl a j) : a < 139 ∧ ¬ zXp2 a j := by unfold zRpl at h; unfold zXp2; omega
set_option maxRecDepth 20000 in
theorem X_soonestStatus {σ : qSg} {A : zA} (hA : zXA σ A) (hW : zAW A) (k : Int32) : qFI 2 179 [qr 0, qi k] σ (nI (zss A k)) := by
  have hw := hW.w
  have wb := hw.1
  refine qCI.of [some (qr 0), some (qi k)] ok_179 (Nat.le_of_ble_eq_true rfl) rfl ?_
  refine qV.go 30 [9999] ok_179 ?_
  simp only [qW_nop, qW_iconst, qW_bipush, qW_ldc2, qW_lconst, qW_iloadn, qW_aloadn, qW_i2l, qW_ifne, qW_icle, qW_goto, qW_getf, qW_cs3_0, qW_iret0, Nat.reduceAdd, Nat.reduceMul, Nat.reduceBEq, Nat.reduceEqDiff, Nat.reduceLT, Nat.reduceLeDiff, Nat.zero_le, nI_add, nI_mul, nI_cl, qin_eq, qofI, qlg_0, qlg_s, qls_i0, qls_r0, qls_l0, qls_1, qls_2, qkl_i, qkl_r, qkl_l, qkl_n, qIsI_i, qIsL_l, qIsR_r, qint_i, qil_i, qil_r, qil_l, qf4_0, qf4_1, qf4_2, qf4_3, qf2_0, qf2_1, qcs_n, qcs_i, qcs_r, qcs_l, qst_n, qst_c, qJ_0, qJ_st, qJ_go, qfl_I, qfl_Z, qfl_L, qfl_R, qrI_i, qrL_l, qrV_v, qRcv_0, qRcv_s, eq_self, true_and, and_true, true_or, or_true, false_and, and_false, false_or, or_false, ite_true, if_true, if_false, Bool.true_or, Bool.false_or, Bool.or_false, beq_self_eq_true, Bool.false_eq_true, bX11_soonestStatus_0, bX11_soonestStatus_14, bX11_soonestStatus_30, bX11_soonestStatus_31, kX11_soonestStatus_0, kX11_soonestStatus_14, kX11_soonestStatus_30, kX11_soonestStatus_31, qK_0, qR_0_0, qK_1, qR_0_1, qK_13, qR_0_2, qK_25, qR_0_3, qK_40, qR_0_4, qK_41, qR_0_5, qK_45, qR_0_6, qK_46, qR_0_7, qK_50, qR_0_8, qK_53, qR_0_9, qK_66, qR_0_10, qK_74, qR_0_11, qK_80, qR_0_12, qK_82, qR_0_14, qK_83, qR_0_15, qK_84, qK_1, qR_1_6, qK_2, qR_1_7, qK_3, qR_1_8, qK_4, qR_1_9, qK_5, qR_1_10, qK_6, qR_1_11, qK_7, qR_1_12, qK_8, qR_1_13, qK_9, qR_1_14, qK_10, qR_1_15, qK_11, qR_1_16, qK_12]
  refine qBI.fn (x_withinI σ k (lo := 0) (hi := 4) (by decide) (by decide)) (by decide) ?_
  simp (disch := omega) only [nI_leI, nI_ltI, nI_eq, nI_cl, qin_eq, nI_add, nI_mul, qb_z, qb_t, qb_f, nI_ne0', Nat.reduceAdd, Bool.false_eq_true, if_false, if_true, true_and, and_true, Nat.reduceEqDiff, not_true_eq_false, not_false_eq_true, false_implies, true_implies, ite_true, ite_false, Bool.not_eq_false, Bool.not_eq_true]
  refine And.symm ⟨fun e => ?_, fun hz => ?_⟩
  · unfold zss
    rw [if_pos e]
  obtain ⟨v, -, hv, rfl⟩ := zih_nI hz
  have e4 : σ.1 1 4 = nI (aC A 0 0) := hA.x.1.b
  rw [e4]
  unfold zss
  rw [if_neg (by rw [hz]; decide), nI_tn (by omega)]
  simp (disch := omega) only [nI_leI, nI_ltI, nI_eq, nI_cl, qin_eq, nI_add, nI_mul, qb_z, qb_t, qb_f, nI_ne0', Nat.reduceAdd, Bool.false_eq_true, if_false, if_true, true_and, and_true, Nat.reduceEqDiff, not_true_eq_false, not_false_eq_true, false_implies, true_implies, ite_true, ite_false]
  refine ⟨fun h => ?_, fun h => ?_⟩
  · rw [if_neg (by omega)]
  · rw [if_pos (by omega)]
set_option maxRecDepth 20000 in
theorem X_soonest {σ : qSg} {A : zA} (hA : zXA σ A) (hW : zAW A) (k : Int32) : qCI 7 180 [qr 0, qi k] σ (zXCall σ (ySoonest A k)) := by
  have hw := hW.w
  have wb := hw.1
  have h5 : aC A 0 5 ≤ 9999 := hW.1.2.1
  have hl := zss_lt A k
  refine qCI.of [some (qr 0), some (qi k), none] ok_180 (Nat.le_of_ble_eq_true rfl) rfl ?_
  refine qV.go 30 [9999] ok_180 ?_
  simp only [qW_nop, qW_iloadn, qW_aloadn, qW_istoren, qW_ifeq, qW_goto, qW_getf, qW_cv2_0, qW_cv3_0, qW_iret0, Nat.reduceAdd, Nat.reduceMul, Nat.reduceBEq, Nat.reduceEqDiff, Nat.reduceLT, Nat.reduceLeDiff, Nat.zero_le, nI_add, nI_mul, nI_cl, qin_eq, qofI, qlg_0, qlg_s, qls_i0, qls_r0, qls_l0, qls_1, qls_2, qkl_i, qkl_r, qkl_l, qkl_n, qIsI_i, qIsL_l, qIsR_r, qint_i, qil_i, qil_r, qil_l, qf4_0, qf4_1, qf4_2, qf4_3, qf2_0, qf2_1, qcs_n, qcs_i, qcs_r, qcs_l, qst_n, qst_c, qJ_0, qJ_st, qJ_go, qfl_I, qfl_Z, qfl_L, qfl_R, qrI_i, qrL_l, qrV_v, qRcv_0, qRcv_s, eq_self, true_and, and_true, true_or, or_true, false_and, and_false, false_or, or_false, ite_true, if_true, if_false, Bool.true_or, Bool.false_or, Bool.or_false, beq_self_eq_true, Bool.false_eq_true, bX11_soonest_0, bX11_soonest_18, bX11_soonest_34, kX11_soonest_0, kX11_soonest_18, kX11_soonest_34, qK_0, qR_0_0, qK_1, qR_0_1, qK_13, qR_0_2, qK_25, qR_0_3, qK_40, qR_0_4, qK_41, qR_0_5, qK_45, qR_0_6, qK_46, qR_0_7, qK_50, qR_0_8, qK_53, qR_0_9, qK_66, qR_0_10, qK_74, qR_0_11, qK_80, qR_0_12, qK_82, qR_0_14, qK_83, qR_0_15, qK_84, qK_1, qR_1_6, qK_2, qR_1_7, qK_3, qR_1_8, qK_4, qR_1_9, qK_5, qR_1_10, qK_6, qR_1_11, qK_7, qR_1_12, qK_8, qR_1_13, qK_9, qR_1_14, qK_10, qR_1_15, qK_11, qR_1_16, qK_12]
  refine qBI.fn (X_soonestStatus hA hW k) (by decide) ?_
  rw [nI_ne0' (by omega)]
  refine And.symm ⟨fun g => ?_, fun g => ?_⟩
  · refine g_no hA hW zCls.rf (by decide) ?_
    unfold zss at g ⊢
    unfold ySoonest
    by_cases e : zih k 0 4 = false
    · rw [if_pos e, if_pos e]; rfl
    · rw [if_neg e] at g ⊢
      by_cases e2 : aC A 0 0 < k.toInt.toNat
      · rw [if_pos e2, if_neg e, if_pos e2]; rfl
      · rw [if_neg e2] at g; exact absurd rfl g
  · unfold zss at g
    by_cases e : zih k 0 4 = false
    · rw [if_pos e] at g; omega
    · rw [if_neg e] at g
      by_cases e2 : aC A 0 0 < k.toInt.toNat
      · rw [if_pos e2] at g; omega
      · have hz : zih k 0 4 = true := by simpa using e
        obtain ⟨v, -, hv, rfl⟩ := zih_nI hz
        rw [nI_tn (by omega)] at e2
        refine qBI.of (x_quickSet hA.x hw (by omega) (k := v) hv) (by decide) (fun r σ1 g1 => ?_)
        obtain ⟨rfl, -, f1⟩ := g1
        obtain ⟨hA1, c1⟩ := hA.pl hW f1 zPpl_s zRpl_s
        have hp := zsoon_is hw (by omega) hv (Nat.le_of_not_lt e2)
        refine g_ok hA1 hW c1 (by decide) ?_
        unfold ySoonest
        rw [if_neg e, nI_tn (by omega), if_neg e2, iI_nn hp]
        rfl
set_option maxRecDepth 20000 in
theorem X_soonestIn {σ : qSg} {A : zA} (hA : zXA σ A) (hW : zAW A) (k : Int32) : qCI 7 181 [qr 0, qi k] σ (zXCall σ (ySoonestIn A k)) := by
  have hw := hW.w
  have wb := hw.1
  have h5 : aC A 0 5 ≤ 9999 := hW.1.2.1
  have hl := zss_lt A k
  refine qCI.of [some (qr 0), some (qi k), none] ok_181 (Nat.le_of_ble_eq_true rfl) rfl ?_
  refine qV.go 30 [9999] ok_181 ?_
  simp only [qW_nop, qW_iloadn, qW_aloadn, qW_istoren, qW_pop, qW_ifeq, qW_getf, qW_cv2_0, qW_cv3_0, qW_iret0, Nat.reduceAdd, Nat.reduceMul, Nat.reduceBEq, Nat.reduceEqDiff, Nat.reduceLT, Nat.reduceLeDiff, Nat.zero_le, nI_add, nI_mul, nI_cl, qin_eq, qofI, qlg_0, qlg_s, qls_i0, qls_r0, qls_l0, qls_1, qls_2, qkl_i, qkl_r, qkl_l, qkl_n, qIsI_i, qIsL_l, qIsR_r, qint_i, qil_i, qil_r, qil_l, qf4_0, qf4_1, qf4_2, qf4_3, qf2_0, qf2_1, qcs_n, qcs_i, qcs_r, qcs_l, qst_n, qst_c, qJ_0, qJ_st, qJ_go, qfl_I, qfl_Z, qfl_L, qfl_R, qrI_i, qrL_l, qrV_v, qRcv_0, qRcv_s, eq_self, true_and, and_true, true_or, or_true, false_and, and_false, false_or, or_false, ite_true, if_true, if_false, Bool.true_or, Bool.false_or, Bool.or_false, beq_self_eq_true, Bool.false_eq_true, bX11_soonestIn_0, bX11_soonestIn_16, kX11_soonestIn_0, kX11_soonestIn_16, qK_0, qR_0_0, qK_1, qR_0_1, qK_13, qR_0_2, qK_25, qR_0_3, qK_40, qR_0_4, qK_41, qR_0_5, qK_45, qR_0_6, qK_46, qR_0_7, qK_50, qR_0_8, qK_53, qR_0_9, qK_66, qR_0_10, qK_74, qR_0_11, qK_80, qR_0_12, qK_82, qR_0_14, qK_83, qR_0_15, qK_84, qK_1, qR_1_6, qK_2, qR_1_7, qK_3, qR_1_8, qK_4, qR_1_9, qK_5, qR_1_10, qK_6, qR_1_11, qK_7, qR_1_12, qK_8, qR_1_13, qK_9, qR_1_14, qK_10, qR_1_15, qK_11, qR_1_16, qK_12, qK_40, qR_40_0, qK_13, qR_40_1, qK_25]
  refine qBI.fn (X_soonestStatus hA hW k) (by decide) ?_
  rw [nI_ne0' (by omega)]
  refine And.symm ⟨fun g => ?_, fun g => ?_⟩
  · refine g_no hA hW zCls.rf (by decide) ?_
    unfold zss at g ⊢
    unfold ySoonestIn
    by_cases e : zih k 0 4 = false
    · rw [if_pos e, if_pos e]; rfl
    · rw [if_neg e] at g ⊢
      by_cases e2 : aC A 0 0 < k.toInt.toNat
      · rw [if_pos e2, if_neg e, if_pos e2]; rfl
      · rw [if_neg e2] at g; exact absurd rfl g
  · unfold zss at g
    by_cases e : zih k 0 4 = false
    · rw [if_pos e] at g; omega
    · rw [if_neg e] at g
      by_cases e2 : aC A 0 0 < k.toInt.toNat
      · rw [if_pos e2] at g; omega
      · have hz : zih k 0 4 = true := by simpa using e
        obtain ⟨v, -, hv, rfl⟩ := zih_nI hz
        rw [nI_tn (by omega)] at e2
        refine qBI.of (x_quickSet hA.x hw (by omega) (k := v) hv) (by decide) (fun r σ1 g1 => ?_)
        obtain ⟨-, e3, f1⟩ := g1
        obtain ⟨hA1, c1⟩ := hA.pl hW f1 zPpl_s zRpl_s
        rw [e3]
        refine g_ok hA1 hW c1 (by decide) ?_
        unfold ySoonestIn
        rw [if_neg e, nI_tn (by omega), if_neg e2]
        rfl
set_option maxRecDepth 20000 in
theorem X_best {σ : qSg} {A : zA} (hA : zXA σ A) (hW : zAW A) (b : Int32) : qCI 6 182 [qr 0, qi b] σ (zXCall σ (yBest A b)) := by
  have hX := hA.x
  have hw := hW.w
  have wb := hw.1
  have h5 : aC A 0 5 ≤ 9999 := hW.1.2.1
  refine qCI.of [some (qr 0), some (qi b)] ok_182 (Nat.le_of_ble_eq_true rfl) rfl ?_
  refine qV.go 30 [9999] ok_182 ?_
  simp only [qW_nop, qW_iconst, qW_iloadn, qW_aloadn, qW_ifne, qW_getf, qW_cv2_0, qW_cv3_0, qW_iret0, Nat.reduceAdd, Nat.reduceMul, Nat.reduceBEq, Nat.reduceEqDiff, Nat.reduceLT, Nat.reduceLeDiff, Nat.zero_le, nI_add, nI_mul, nI_cl, qin_eq, qofI, qlg_0, qlg_s, qls_i0, qls_r0, qls_l0, qls_1, qls_2, qkl_i, qkl_r, qkl_l, qkl_n, qIsI_i, qIsL_l, qIsR_r, qint_i, qil_i, qil_r, qil_l, qf4_0, qf4_1, qf4_2, qf4_3, qf2_0, qf2_1, qcs_n, qcs_i, qcs_r, qcs_l, qst_n, qst_c, qJ_0, qJ_st, qJ_go, qfl_I, qfl_Z, qfl_L, qfl_R, qrI_i, qrL_l, qrV_v, qRcv_0, qRcv_s, eq_self, true_and, and_true, true_or, or_true, false_and, and_false, false_or, or_false, ite_true, if_true, if_false, Bool.true_or, Bool.false_or, Bool.or_false, beq_self_eq_true, Bool.false_eq_true, bX11_best_0, bX11_best_17, kX11_best_0, kX11_best_17, qK_0, qR_0_0, qK_1, qR_0_1, qK_13, qR_0_2, qK_25, qR_0_3, qK_40, qR_0_4, qK_41, qR_0_5, qK_45, qR_0_6, qK_46, qR_0_7, qK_50, qR_0_8, qK_53, qR_0_9, qK_66, qR_0_10, qK_74, qR_0_11, qK_80, qR_0_12, qK_82, qR_0_14, qK_83, qR_0_15, qK_84, qK_1, qR_1_6, qK_2, qR_1_7, qK_3, qR_1_8, qK_4, qR_1_9, qK_5, qR_1_10, qK_6, qR_1_11, qK_7, qR_1_12, qK_8, qR_1_13, qK_9, qR_1_14, qK_10, qR_1_15, qK_11, qR_1_16, qK_12, qK_40, qR_40_0, qK_13, qR_40_1, qK_25]
  refine qBI.fn (x_hasBoy zCb_n hX.1 hw b) (by decide) ?_
  simp (disch := omega) only [nI_leI, nI_ltI, nI_eq, nI_cl, qin_eq, nI_add, nI_mul, qb_z, qb_t, qb_f, nI_ne0', Nat.reduceAdd, Bool.false_eq_true, if_false, if_true, true_and, and_true, Nat.reduceEqDiff, not_true_eq_false, not_false_eq_true, false_implies, true_implies, ite_true, ite_false, Bool.not_eq_false, Bool.not_eq_true]
  refine And.symm ⟨fun e => ?_, fun hb => ?_⟩
  · exact g_no hA hW zCls.rf (by decide) (by unfold yBest; rw [if_pos e]; rfl)
  obtain ⟨i, hi, rfl⟩ := zrg_nI hb
  refine qBI.of (x_quickCell hX hw (by omega) hi) (by decide) (fun r σ1 g1 => ?_)
  obtain ⟨rfl, -, f1⟩ := g1
  obtain ⟨hA1, c1⟩ := hA.pl hW f1 zPpl_s zRpl_s
  exact g_ok hA1 hW c1 (by decide) (by unfold yBest; rw [if_neg (by rw [hb]; decide), nI_tn (by omega)]; rfl)
set_option maxRecDepth 20000 in
theorem X_bestIn {σ : qSg} {A : zA} (hA : zXA σ A) (hW : zAW A) (b : Int32) : qCI 6 183 [qr 0, qi b] σ (zXCall σ (yBestIn A b)) := by
  have hX := hA.x
  have hw := hW.w
  have wb := hw.1
  have h5 : aC A 0 5 ≤ 9999 := hW.1.2.1
  refine qCI.of [some (qr 0), some (qi b)] ok_183 (Nat.le_of_ble_eq_true rfl) rfl ?_
  refine qV.go 30 [9999] ok_183 ?_
  simp only [qW_nop, qW_iconst, qW_iloadn, qW_aloadn, qW_pop, qW_ifne, qW_getf, qW_cv2_0, qW_cv3_0, qW_iret0, Nat.reduceAdd, Nat.reduceMul, Nat.reduceBEq, Nat.reduceEqDiff, Nat.reduceLT, Nat.reduceLeDiff, Nat.zero_le, nI_add, nI_mul, nI_cl, qin_eq, qofI, qlg_0, qlg_s, qls_i0, qls_r0, qls_l0, qls_1, qls_2, qkl_i, qkl_r, qkl_l, qkl_n, qIsI_i, qIsL_l, qIsR_r, qint_i, qil_i, qil_r, qil_l, qf4_0, qf4_1, qf4_2, qf4_3, qf2_0, qf2_1, qcs_n, qcs_i, qcs_r, qcs_l, qst_n, qst_c, qJ_0, qJ_st, qJ_go, qfl_I, qfl_Z, qfl_L, qfl_R, qrI_i, qrL_l, qrV_v, qRcv_0, qRcv_s, eq_self, true_and, and_true, true_or, or_true, false_and, and_false, false_or, or_false, ite_true, if_true, if_false, Bool.true_or, Bool.false_or, Bool.or_false, beq_self_eq_true, Bool.false_eq_true, bX11_bestIn_0, bX11_bestIn_17, kX11_bestIn_0, kX11_bestIn_17, qK_0, qR_0_0, qK_1, qR_0_1, qK_13, qR_0_2, qK_25, qR_0_3, qK_40, qR_0_4, qK_41, qR_0_5, qK_45, qR_0_6, qK_46, qR_0_7, qK_50, qR_0_8, qK_53, qR_0_9, qK_66, qR_0_10, qK_74, qR_0_11, qK_80, qR_0_12, qK_82, qR_0_14, qK_83, qR_0_15, qK_84, qK_1, qR_1_6, qK_2, qR_1_7, qK_3, qR_1_8, qK_4, qR_1_9, qK_5, qR_1_10, qK_6, qR_1_11, qK_7, qR_1_12, qK_8, qR_1_13, qK_9, qR_1_14, qK_10, qR_1_15, qK_11, qR_1_16, qK_12, qK_40, qR_40_0, qK_13, qR_40_1, qK_25]
  refine qBI.fn (x_hasBoy zCb_n hX.1 hw b) (by decide) ?_
  simp (disch := omega) only [nI_leI, nI_ltI, nI_eq, nI_cl, qin_eq, nI_add, nI_mul, qb_z, qb_t, qb_f, nI_ne0', Nat.reduceAdd, Bool.false_eq_true, if_false, if_true, true_and, and_true, Nat.reduceEqDiff, not_true_eq_false, not_false_eq_true, false_implies, true_implies, ite_true, ite_false, Bool.not_eq_false, Bool.not_eq_true]
  refine And.symm ⟨fun e => ?_, fun hb => ?_⟩
  · exact g_no hA hW zCls.rf (by decide) (by unfold yBestIn; rw [if_pos e]; rfl)
  obtain ⟨i, hi, rfl⟩ := zrg_nI hb
  refine qBI.of (x_quickCell hX hw (by omega) hi) (by decide) (fun r σ1 g1 => ?_)
  obtain ⟨-, e3, f1⟩ := g1
  obtain ⟨hA1, c1⟩ := hA.pl hW f1 zPpl_s zRpl_s
  rw [e3]
  exact g_ok hA1 hW c1 (by decide) (by unfold yBestIn; rw [if_neg (by rw [hb]; decide), nI_tn (by omega)]; rfl)
set_option maxRecDepth 20000 in
theorem X_ending {σ : qSg} {A : zA} (hA : zXA σ A) (hW : zAW A) : qCI 5 184 [qr 0] σ (zXCall σ (yEnding A)) := by
  have hw := hW.w
  have he : zending (aC A) < 256 := Nat.lt_of_lt_of_le (zef_lt hw _ (Nat.le_refl _)) (zpow_le hw)
  refine qCI.of [some (qr 0)] ok_184 (Nat.le_of_ble_eq_true rfl) rfl ?_
  refine qV.go 30 [9999] ok_184 ?_
  simp only [qW_nop, qW_aloadn, qW_getf, qW_cs1_0, qW_cv2_0, qW_iret0, Nat.reduceAdd, Nat.reduceMul, Nat.reduceBEq, Nat.reduceEqDiff, Nat.reduceLT, Nat.reduceLeDiff, Nat.zero_le, nI_add, nI_mul, nI_cl, qin_eq, qofI, qlg_0, qlg_s, qls_i0, qls_r0, qls_l0, qls_1, qls_2, qkl_i, qkl_r, qkl_l, qkl_n, qIsI_i, qIsL_l, qIsR_r, qint_i, qil_i, qil_r, qil_l, qf4_0, qf4_1, qf4_2, qf4_3, qf2_0, qf2_1, qcs_n, qcs_i, qcs_r, qcs_l, qst_n, qst_c, qJ_0, qJ_st, qJ_go, qfl_I, qfl_Z, qfl_L, qfl_R, qrI_i, qrL_l, qrV_v, qRcv_0, qRcv_s, eq_self, true_and, and_true, true_or, or_true, false_and, and_false, false_or, or_false, ite_true, if_true, if_false, Bool.true_or, Bool.false_or, Bool.or_false, beq_self_eq_true, Bool.false_eq_true, bX11_ending_0, kX11_ending_0, qK_0, qR_0_0, qK_1, qR_0_1, qK_13, qR_0_2, qK_25, qR_0_3, qK_40, qR_0_4, qK_41, qR_0_5, qK_45, qR_0_6, qK_46, qR_0_7, qK_50, qR_0_8, qK_53, qR_0_9, qK_66, qR_0_10, qK_74, qR_0_11, qK_80, qR_0_12, qK_82, qR_0_14, qK_83, qR_0_15, qK_84, qK_1, qR_1_6, qK_2, qR_1_7, qK_3, qR_1_8, qK_4, qR_1_9, qK_5, qR_1_10, qK_6, qR_1_11, qK_7, qR_1_12, qK_8, qR_1_13, qK_9, qR_1_14, qK_10, qR_1_15, qK_11, qR_1_16, qK_12]
  exact qBI.fn (x_fewest zCb_n hA.x.1 hw) (by decide) (qBI.fn (x_bits σ (by omega)) (by decide) (g_ok hA hW zCls.rf (by decide) rfl))
set_option maxRecDepth 20000 in
theorem X_endingSet {σ : qSg} {A : zA} (hA : zXA σ A) (hW : zAW A) : qCI 5 185 [qr 0] σ (zXCall σ (yEndingSet A)) := by
  have hw := hW.w
  refine qCI.of [some (qr 0)] ok_185 (Nat.le_of_ble_eq_true rfl) rfl ?_
  refine qV.go 30 [9999] ok_185 ?_
  simp only [qW_nop, qW_aloadn, qW_getf, qW_cs1_0, qW_cv2_0, qW_iret0, Nat.reduceAdd, Nat.reduceMul, Nat.reduceBEq, Nat.reduceEqDiff, Nat.reduceLT, Nat.reduceLeDiff, Nat.zero_le, nI_add, nI_mul, nI_cl, qin_eq, qofI, qlg_0, qlg_s, qls_i0, qls_r0, qls_l0, qls_1, qls_2, qkl_i, qkl_r, qkl_l, qkl_n, qIsI_i, qIsL_l, qIsR_r, qint_i, qil_i, qil_r, qil_l, qf4_0, qf4_1, qf4_2, qf4_3, qf2_0, qf2_1, qcs_n, qcs_i, qcs_r, qcs_l, qst_n, qst_c, qJ_0, qJ_st, qJ_go, qfl_I, qfl_Z, qfl_L, qfl_R, qrI_i, qrL_l, qrV_v, qRcv_0, qRcv_s, eq_self, true_and, and_true, true_or, or_true, false_and, and_false, false_or, or_false, ite_true, if_true, if_false, Bool.true_or, Bool.false_or, Bool.or_false, beq_self_eq_true, Bool.false_eq_true, bX11_endingSet_0, kX11_endingSet_0, qK_0, qR_0_0, qK_1, qR_0_1, qK_13, qR_0_2, qK_25, qR_0_3, qK_40, qR_0_4, qK_41, qR_0_5, qK_45, qR_0_6, qK_46, qR_0_7, qK_50, qR_0_8, qK_53, qR_0_9, qK_66, qR_0_10, qK_74, qR_0_11, qK_80, qR_0_12, qK_82, qR_0_14, qK_83, qR_0_15, qK_84, qK_1, qR_1_6, qK_2, qR_1_7, qK_3, qR_1_8, qK_4, qR_1_9, qK_5, qR_1_10, qK_6, qR_1_11, qK_7, qR_1_12, qK_8, qR_1_13, qK_9, qR_1_14, qK_10, qR_1_15, qK_11, qR_1_16, qK_12]
  exact qBI.fn (x_fewest zCb_n hA.x.1 hw) (by decide) (g_ok hA hW zCls.rf (by decide) rfl)
set_option maxRecDepth 20000 in
theorem X_apart {σ : qSg} {A : zA} (hA : zXA σ A) (hW : zAW A) : qCI 5 186 [qr 0] σ (zXCall σ (yApart A)) := by
  have hw := hW.w
  have he : zapart (aC A) < 1024 := Nat.lt_of_lt_of_le (zaf_lt hw _ (Nat.le_refl _)) (zpow_le2 hw)
  refine qCI.of [some (qr 0)] ok_186 (Nat.le_of_ble_eq_true rfl) rfl ?_
  refine qV.go 30 [9999] ok_186 ?_
  simp only [qW_nop, qW_aloadn, qW_getf, qW_cs1_0, qW_cv2_0, qW_iret0, Nat.reduceAdd, Nat.reduceMul, Nat.reduceBEq, Nat.reduceEqDiff, Nat.reduceLT, Nat.reduceLeDiff, Nat.zero_le, nI_add, nI_mul, nI_cl, qin_eq, qofI, qlg_0, qlg_s, qls_i0, qls_r0, qls_l0, qls_1, qls_2, qkl_i, qkl_r, qkl_l, qkl_n, qIsI_i, qIsL_l, qIsR_r, qint_i, qil_i, qil_r, qil_l, qf4_0, qf4_1, qf4_2, qf4_3, qf2_0, qf2_1, qcs_n, qcs_i, qcs_r, qcs_l, qst_n, qst_c, qJ_0, qJ_st, qJ_go, qfl_I, qfl_Z, qfl_L, qfl_R, qrI_i, qrL_l, qrV_v, qRcv_0, qRcv_s, eq_self, true_and, and_true, true_or, or_true, false_and, and_false, false_or, or_false, ite_true, if_true, if_false, Bool.true_or, Bool.false_or, Bool.or_false, beq_self_eq_true, Bool.false_eq_true, bX11_apart_0, kX11_apart_0, qK_0, qR_0_0, qK_1, qR_0_1, qK_13, qR_0_2, qK_25, qR_0_3, qK_40, qR_0_4, qK_41, qR_0_5, qK_45, qR_0_6, qK_46, qR_0_7, qK_50, qR_0_8, qK_53, qR_0_9, qK_66, qR_0_10, qK_74, qR_0_11, qK_80, qR_0_12, qK_82, qR_0_14, qK_83, qR_0_15, qK_84, qK_1, qR_1_6, qK_2, qR_1_7, qK_3, qR_1_8, qK_4, qR_1_9, qK_5, qR_1_10, qK_6, qR_1_11, qK_7, qR_1_12, qK_8, qR_1_13, qK_9, qR_1_14, qK_10, qR_1_15, qK_11, qR_1_16, qK_12]
  exact qBI.fn (x_mostApart zCb_n hA.x.1 hw) (by decide) (qBI.fn (x_bits σ (by omega)) (by decide) (g_ok hA hW zCls.rf (by decide) rfl))
set_option maxRecDepth 20000 in
theorem X_apartSet {σ : qSg} {A : zA} (hA : zXA σ A) (hW : zAW A) : qCI 5 187 [qr 0] σ (zXCall σ (yApartSet A)) := by
  have hw := hW.w
  refine qCI.of [some (qr 0)] ok_187 (Nat.le_of_ble_eq_true rfl) rfl ?_
  refine qV.go 30 [9999] ok_187 ?_
  simp only [qW_nop, qW_aloadn, qW_getf, qW_cs1_0, qW_cv2_0, qW_iret0, Nat.reduceAdd, Nat.reduceMul, Nat.reduceBEq, Nat.reduceEqDiff, Nat.reduceLT, Nat.reduceLeDiff, Nat.zero_le, nI_add, nI_mul, nI_cl, qin_eq, qofI, qlg_0, qlg_s, qls_i0, qls_r0, qls_l0, qls_1, qls_2, qkl_i, qkl_r, qkl_l, qkl_n, qIsI_i, qIsL_l, qIsR_r, qint_i, qil_i, qil_r, qil_l, qf4_0, qf4_1, qf4_2, qf4_3, qf2_0, qf2_1, qcs_n, qcs_i, qcs_r, qcs_l, qst_n, qst_c, qJ_0, qJ_st, qJ_go, qfl_I, qfl_Z, qfl_L, qfl_R, qrI_i, qrL_l, qrV_v, qRcv_0, qRcv_s, eq_self, true_and, and_true, true_or, or_true, false_and, and_false, false_or, or_false, ite_true, if_true, if_false, Bool.true_or, Bool.false_or, Bool.or_false, beq_self_eq_true, Bool.false_eq_true, bX11_apartSet_0, kX11_apartSet_0, qK_0, qR_0_0, qK_1, qR_0_1, qK_13, qR_0_2, qK_25, qR_0_3, qK_40, qR_0_4, qK_41, qR_0_5, qK_45, qR_0_6, qK_46, qR_0_7, qK_50, qR_0_8, qK_53, qR_0_9, qK_66, qR_0_10, qK_74, qR_0_11, qK_80, qR_0_12, qK_82, qR_0_14, qK_83, qR_0_15, qK_84, qK_1, qR_1_6, qK_2, qR_1_7, qK_3, qR_1_8, qK_4, qR_1_9, qK_5, qR_1_10, qK_6, qR_1_11, qK_7, qR_1_12, qK_8, qR_1_13, qK_9, qR_1_14, qK_10, qR_1_15, qK_11, qR_1_16, qK_12]
  exact qBI.fn (x_mostApart zCb_n hA.x.1 hw) (by decide) (g_ok hA hW zCls.rf (by decide) rfl)
set_option maxRecDepth 20000 in
theorem X_circle {σ : qSg} {A : zA} (hA : zXA σ A) (hW : zAW A) (b : Int32) : qCI 4 188 [qr 0, qi b] σ (zXCall σ (yCircle A b)) := by
  have hX := hA.x
  have hw := hW.w
  have wb := hw.1
  refine qCI.of [some (qr 0), some (qi b)] ok_188 (Nat.le_of_ble_eq_true rfl) rfl ?_
  refine qV.go 30 [9999] ok_188 ?_
  simp only [qW_nop, qW_iconst, qW_iloadn, qW_aloadn, qW_ifne, qW_getf, qW_cs2_0, qW_cv2_0, qW_iret0, Nat.reduceAdd, Nat.reduceMul, Nat.reduceBEq, Nat.reduceEqDiff, Nat.reduceLT, Nat.reduceLeDiff, Nat.zero_le, nI_add, nI_mul, nI_cl, qin_eq, qofI, qlg_0, qlg_s, qls_i0, qls_r0, qls_l0, qls_1, qls_2, qkl_i, qkl_r, qkl_l, qkl_n, qIsI_i, qIsL_l, qIsR_r, qint_i, qil_i, qil_r, qil_l, qf4_0, qf4_1, qf4_2, qf4_3, qf2_0, qf2_1, qcs_n, qcs_i, qcs_r, qcs_l, qst_n, qst_c, qJ_0, qJ_st, qJ_go, qfl_I, qfl_Z, qfl_L, qfl_R, qrI_i, qrL_l, qrV_v, qRcv_0, qRcv_s, eq_self, true_and, and_true, true_or, or_true, false_and, and_false, false_or, or_false, ite_true, if_true, if_false, Bool.true_or, Bool.false_or, Bool.or_false, beq_self_eq_true, Bool.false_eq_true, bX11_circle_0, bX11_circle_17, kX11_circle_0, kX11_circle_17, qK_0, qR_0_0, qK_1, qR_0_1, qK_13, qR_0_2, qK_25, qR_0_3, qK_40, qR_0_4, qK_41, qR_0_5, qK_45, qR_0_6, qK_46, qR_0_7, qK_50, qR_0_8, qK_53, qR_0_9, qK_66, qR_0_10, qK_74, qR_0_11, qK_80, qR_0_12, qK_82, qR_0_14, qK_83, qR_0_15, qK_84, qK_1, qR_1_6, qK_2, qR_1_7, qK_3, qR_1_8, qK_4, qR_1_9, qK_5, qR_1_10, qK_6, qR_1_11, qK_7, qR_1_12, qK_8, qR_1_13, qK_9, qR_1_14, qK_10, qR_1_15, qK_11, qR_1_16, qK_12]
  refine qBI.fn (x_hasBoy zCb_n hX.1 hw b) (by decide) ?_
  simp (disch := omega) only [nI_leI, nI_ltI, nI_eq, nI_cl, qin_eq, nI_add, nI_mul, qb_z, qb_t, qb_f, nI_ne0', Nat.reduceAdd, Bool.false_eq_true, if_false, if_true, true_and, and_true, Nat.reduceEqDiff, not_true_eq_false, not_false_eq_true, false_implies, true_implies, ite_true, ite_false, Bool.not_eq_false, Bool.not_eq_true]
  refine And.symm ⟨fun e => ?_, fun hb => ?_⟩
  · exact g_no hA hW zCls.rf (by decide) (by unfold yCircle; rw [if_pos e]; rfl)
  obtain ⟨i, hi, rfl⟩ := zrg_nI hb
  exact qBI.fn (x_circle zCb_n hX.1 hw hi) (by decide) (g_ok hA hW zCls.rf (by decide) (by unfold yCircle; rw [if_neg (by rw [hb]; decide), nI_tn (by omega)]; rfl))
set_option maxRecDepth 20000 in
theorem X_circles {σ : qSg} {A : zA} (hA : zXA σ A) (hW : zAW A) : qCI 5 189 [qr 0] σ (zXCall σ (yCircles A)) := by
  have hw := hW.w
  refine qCI.of [some (qr 0)] ok_189 (Nat.le_of_ble_eq_true rfl) rfl ?_
  refine qV.go 30 [9999] ok_189 ?_
  simp only [qW_nop, qW_aloadn, qW_getf, qW_cs1_0, qW_cv2_0, qW_iret0, Nat.reduceAdd, Nat.reduceMul, Nat.reduceBEq, Nat.reduceEqDiff, Nat.reduceLT, Nat.reduceLeDiff, Nat.zero_le, nI_add, nI_mul, nI_cl, qin_eq, qofI, qlg_0, qlg_s, qls_i0, qls_r0, qls_l0, qls_1, qls_2, qkl_i, qkl_r, qkl_l, qkl_n, qIsI_i, qIsL_l, qIsR_r, qint_i, qil_i, qil_r, qil_l, qf4_0, qf4_1, qf4_2, qf4_3, qf2_0, qf2_1, qcs_n, qcs_i, qcs_r, qcs_l, qst_n, qst_c, qJ_0, qJ_st, qJ_go, qfl_I, qfl_Z, qfl_L, qfl_R, qrI_i, qrL_l, qrV_v, qRcv_0, qRcv_s, eq_self, true_and, and_true, true_or, or_true, false_and, and_false, false_or, or_false, ite_true, if_true, if_false, Bool.true_or, Bool.false_or, Bool.or_false, beq_self_eq_true, Bool.false_eq_true, bX11_circles_0, kX11_circles_0, qK_0, qR_0_0, qK_1, qR_0_1, qK_13, qR_0_2, qK_25, qR_0_3, qK_40, qR_0_4, qK_41, qR_0_5, qK_45, qR_0_6, qK_46, qR_0_7, qK_50, qR_0_8, qK_53, qR_0_9, qK_66, qR_0_10, qK_74, qR_0_11, qK_80, qR_0_12, qK_82, qR_0_14, qK_83, qR_0_15, qK_84, qK_1, qR_1_6, qK_2, qR_1_7, qK_3, qR_1_8, qK_4, qR_1_9, qK_5, qR_1_10, qK_6, qR_1_11, qK_7, qR_1_12, qK_8, qR_1_13, qK_9, qR_1_14, qK_10, qR_1_15, qK_11, qR_1_16, qK_12]
  exact qBI.fn (x_circles zCb_n hA.x.1 hw) (by decide) (g_ok hA hW zCls.rf (by decide) rfl)
set_option maxRecDepth 20000 in
theorem X_sides {σ : qSg} {A : zA} (hA : zXA σ A) (hW : zAW A) : qCI 5 190 [qr 0] σ (zXCall σ (ySides A)) := by
  have hw := hW.w
  have hp2 := zpow_le hw
  have hs := zlst_le (zside (aC A)) (2 ^ aC A 0 0) 0
  refine qCI.of [some (qr 0), none] ok_190 (Nat.le_of_ble_eq_true rfl) rfl ?_
  refine qV.go 30 [9999] ok_190 ?_
  simp only [qW_nop, qW_iconstm, qW_bipush, qW_iloadn, qW_aloadn, qW_istoren, qW_icne, qW_goto, qW_getf, qW_cs1_0, qW_cv2_0, qW_iret0, Nat.reduceAdd, Nat.reduceMul, Nat.reduceBEq, Nat.reduceEqDiff, Nat.reduceLT, Nat.reduceLeDiff, Nat.zero_le, nI_add, nI_mul, nI_cl, qin_eq, qofI, qlg_0, qlg_s, qls_i0, qls_r0, qls_l0, qls_1, qls_2, qkl_i, qkl_r, qkl_l, qkl_n, qIsI_i, qIsL_l, qIsR_r, qint_i, qil_i, qil_r, qil_l, qf4_0, qf4_1, qf4_2, qf4_3, qf2_0, qf2_1, qcs_n, qcs_i, qcs_r, qcs_l, qst_n, qst_c, qJ_0, qJ_st, qJ_go, qfl_I, qfl_Z, qfl_L, qfl_R, qrI_i, qrL_l, qrV_v, qRcv_0, qRcv_s, eq_self, true_and, and_true, true_or, or_true, false_and, and_false, false_or, or_false, ite_true, if_true, if_false, Bool.true_or, Bool.false_or, Bool.or_false, beq_self_eq_true, Bool.false_eq_true, bX11_sides_0, bX11_sides_22, bX11_sides_27, kX11_sides_0, kX11_sides_22, kX11_sides_27, qK_0, qR_0_0, qK_1, qR_0_1, qK_13, qR_0_2, qK_25, qR_0_3, qK_40, qR_0_4, qK_41, qR_0_5, qK_45, qR_0_6, qK_46, qR_0_7, qK_50, qR_0_8, qK_53, qR_0_9, qK_66, qR_0_10, qK_74, qR_0_11, qK_80, qR_0_12, qK_82, qR_0_14, qK_83, qR_0_15, qK_84, qK_1, qR_1_6, qK_2, qR_1_7, qK_3, qR_1_8, qK_4, qR_1_9, qK_5, qR_1_10, qK_6, qR_1_11, qK_7, qR_1_12, qK_8, qR_1_13, qK_9, qR_1_14, qK_10, qR_1_15, qK_11, qR_1_16, qK_12]
  refine qBI.fn (x_leastSide zCb_n hA.x.1 hw) (by decide) ?_
  unfold ySides
  by_cases e : zsidef (aC A) = 2 ^ aC A 0 0
  · rw [if_pos e, if_pos e]
    refine ⟨fun hh => absurd rfl hh, fun _ => ?_⟩
    exact g_no hA hW zCls.rf (by decide) rfl
  · rw [if_neg e, if_neg e]
    have hz : zsidef (aC A) ≤ 256 := by unfold zsidef; omega
    refine ⟨fun _ => ?_, fun hh => absurd hh (nI_nem (by omega))⟩
    exact g_ok hA hW zCls.rf (by decide) rfl
