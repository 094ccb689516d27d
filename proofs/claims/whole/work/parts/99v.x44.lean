/-! the class's calls: rests, games, odds -/
theorem zPgm_s (a j : Nat) (h : zPgm a j) : a < 139 ∧ ¬ zXp1 a j := by unfold zPgm at h; unfold zXp1; omega
set_option maxRecDepth 20000 in
theorem X_rests {σ : qSg} {A : zA} (hA : zXA σ A) (hW : zAW A) (q n : Int32) : qCI 4 196 [qr 0, qi q, qi n] σ (zXCall σ (yRests A q n)) := by
  have hX := hA.x
  have hw := hW.w
  have wq := hw.2.1
  refine qCI.of [some (qr 0), some (qi q), some (qi n)] ok_196 (Nat.le_of_ble_eq_true rfl) rfl ?_
  have no : (zrg q (aC A 0 1) && zih n 0 20) = false → qV 196 4 (.inl (zXCall σ (yRests A q n))) 23 [some (qr 0), some (qi q), some (qi n)] [] σ := by
    intro hz
    refine qV.go 30 [9999] ok_196 ?_
    simp only [qW_nop, qW_iconst, qW_ldc2, qW_lconst, qW_iloadn, qW_aloadn, qW_i2l, qW_ifeq, qW_ifne, qW_getf, qW_iald, qW_cs2_0, qW_cs3_0, qW_cv2_0, qW_iret0, Nat.reduceAdd, Nat.reduceMul, Nat.reduceBEq, Nat.reduceEqDiff, Nat.reduceLT, Nat.reduceLeDiff, Nat.zero_le, nI_add, nI_mul, nI_cl, qin_eq, qofI, qlg_0, qlg_s, qls_i0, qls_r0, qls_l0, qls_1, qls_2, qkl_i, qkl_r, qkl_l, qkl_n, qIsI_i, qIsL_l, qIsR_r, qint_i, qil_i, qil_r, qil_l, qf4_0, qf4_1, qf4_2, qf4_3, qf2_0, qf2_1, qcs_n, qcs_i, qcs_r, qcs_l, qst_n, qst_c, qJ_0, qJ_st, qJ_go, qfl_I, qfl_Z, qfl_L, qfl_R, qrI_i, qrL_l, qrV_v, qRcv_0, qRcv_s, eq_self, true_and, and_true, true_or, or_true, false_and, and_false, false_or, or_false, ite_true, if_true, if_false, Bool.true_or, Bool.false_or, Bool.or_false, beq_self_eq_true, Bool.false_eq_true, bX11_rests_0, bX11_rests_23, bX11_rests_29, kX11_rests_0, kX11_rests_23, kX11_rests_29, qK_0, qR_0_0, qK_1, qR_0_1, qK_13, qR_0_2, qK_25, qR_0_3, qK_40, qR_0_4, qK_41, qR_0_5, qK_45, qR_0_6, qK_46, qR_0_7, qK_50, qR_0_8, qK_53, qR_0_9, qK_66, qR_0_10, qK_74, qR_0_11, qK_80, qR_0_12, qK_82, qR_0_14, qK_83, qR_0_15, qK_84]
    exact g_no hA hW zCls.rf (by decide) (by unfold yRests; rw [if_pos hz]; rfl)
  refine qV.go 30 [23] ok_196 ?_
  simp only [qW_nop, qW_iconst, qW_ldc2, qW_lconst, qW_iloadn, qW_aloadn, qW_i2l, qW_ifeq, qW_ifne, qW_getf, qW_iald, qW_cs2_0, qW_cs3_0, qW_cv2_0, qW_iret0, Nat.reduceAdd, Nat.reduceMul, Nat.reduceBEq, Nat.reduceEqDiff, Nat.reduceLT, Nat.reduceLeDiff, Nat.zero_le, nI_add, nI_mul, nI_cl, qin_eq, qofI, qlg_0, qlg_s, qls_i0, qls_r0, qls_l0, qls_1, qls_2, qkl_i, qkl_r, qkl_l, qkl_n, qIsI_i, qIsL_l, qIsR_r, qint_i, qil_i, qil_r, qil_l, qf4_0, qf4_1, qf4_2, qf4_3, qf2_0, qf2_1, qcs_n, qcs_i, qcs_r, qcs_l, qst_n, qst_c, qJ_0, qJ_st, qJ_go, qfl_I, qfl_Z, qfl_L, qfl_R, qrI_i, qrL_l, qrV_v, qRcv_0, qRcv_s, eq_self, true_and, and_true, true_or, or_true, false_and, and_false, false_or, or_false, ite_true, if_true, if_false, Bool.true_or, Bool.false_or, Bool.or_false, beq_self_eq_true, Bool.false_eq_true, bX11_rests_0, bX11_rests_23, bX11_rests_29, kX11_rests_0, kX11_rests_23, kX11_rests_29, qK_0, qR_0_0, qK_1, qR_0_1, qK_13, qR_0_2, qK_25, qR_0_3, qK_40, qR_0_4, qK_41, qR_0_5, qK_45, qR_0_6, qK_46, qR_0_7, qK_50, qR_0_8, qK_53, qR_0_9, qK_66, qR_0_10, qK_74, qR_0_11, qK_80, qR_0_12, qK_82, qR_0_14, qK_83, qR_0_15, qK_84, qK_1, qR_1_6, qK_2, qR_1_7, qK_3, qR_1_8, qK_4, qR_1_9, qK_5, qR_1_10, qK_6, qR_1_11, qK_7, qR_1_12, qK_8, qR_1_13, qK_9, qR_1_14, qK_10, qR_1_15, qK_11, qR_1_16, qK_12]
  refine qBI.fn (x_hasQuarrel zCb_n hX.1 hw q) (by decide) ?_
  simp (disch := omega) only [nI_leI, nI_ltI, nI_eq, nI_cl, qin_eq, nI_add, nI_mul, qb_z, qb_t, qb_f, nI_ne0', Nat.reduceAdd, Bool.false_eq_true, if_false, if_true, true_and, and_true, Nat.reduceEqDiff, not_true_eq_false, not_false_eq_true, false_implies, true_implies, ite_true, ite_false, Bool.not_eq_false, Bool.not_eq_true]
  refine ⟨fun h1 => no (by rw [h1]; rfl), fun h1 => ?_⟩
  refine qBI.fn (x_withinI σ n (lo := 0) (hi := 20) (by decide) (by decide)) (by decide) ?_
  simp (disch := omega) only [nI_leI, nI_ltI, nI_eq, nI_cl, qin_eq, nI_add, nI_mul, qb_z, qb_t, qb_f, nI_ne0', Nat.reduceAdd, Bool.false_eq_true, if_false, if_true, true_and, and_true, Nat.reduceEqDiff, not_true_eq_false, not_false_eq_true, false_implies, true_implies, ite_true, ite_false, Bool.not_eq_false, Bool.not_eq_true]
  refine And.symm ⟨fun h2 => no (by rw [h2, Bool.and_false]), fun h2 => ?_⟩
  obtain ⟨i, hi, rfl⟩ := zrg_nI h1
  obtain ⟨m, -, hm, rfl⟩ := zih_nI h2
  have hg := (hw.2.2.2.2.2.2.2.2.2 i hi).2.2.2.1
  have e1 : σ.1 11 i = nI (aC A 8 i) := hX.1.gr hi
  simp (disch := omega) only [nI_leI, nI_ltI, nI_eq, nI_cl, qin_eq, nI_add, nI_mul, qb_z, qb_t, qb_f, nI_ne0', Nat.reduceAdd, Bool.false_eq_true, if_false, if_true, true_and, and_true, Nat.reduceEqDiff, not_true_eq_false, not_false_eq_true, false_implies, true_implies, ite_true, ite_false]
  rw [e1]
  refine qBI.fn (x_rests σ (by omega) hm) (by decide) ?_
  exact g_ok hA hW zCls.rf (by decide) (by unfold yRests; rw [if_neg (by rw [h1, h2]; decide), nI_tn (by omega), nI_tn (by omega)]; rfl)
set_option maxRecDepth 20000 in
theorem X_restAt {σ : qSg} {A : zA} (hA : zXA σ A) (hW : zAW A) (q n k w : Int32) : qCI 4 197 [qr 0, qi q, qi n, qi k, qi w] σ (zXCall σ (yRestAt A q n k w)) := by
  have hX := hA.x
  have hw := hW.w
  have wq := hw.2.1
  refine qCI.of [some (qr 0), some (qi q), some (qi n), some (qi k), some (qi w), none] ok_197 (Nat.le_of_ble_eq_true rfl) rfl ?_
  have no : (zrg q (aC A 0 1) && zih n 0 20 && decide (0 ≤ k.toInt) && zih w 0 1) = false → qV 197 4 (.inl (zXCall σ (yRestAt A q n k w))) 38 [some (qr 0), some (qi q), some (qi n), some (qi k), some (qi w), none] [] σ := by
    intro hz
    refine qV.go 30 [9999] ok_197 ?_
    simp only [qW_nop, qW_iconst, qW_iconstm, qW_bipush, qW_ldc2, qW_lconst, qW_iloadn, qW_iload, qW_aloadn, qW_istore, qW_iadd, qW_idiv, qW_irem, qW_i2l, qW_ifeq, qW_ifne, qW_icne, qW_iflt, qW_goto, qW_getf, qW_iald, qW_cs3_0, qW_cv2_0, qW_iret0, Nat.reduceAdd, Nat.reduceMul, Nat.reduceBEq, Nat.reduceEqDiff, Nat.reduceLT, Nat.reduceLeDiff, Nat.zero_le, nI_add, nI_mul, nI_cl, qin_eq, qofI, qlg_0, qlg_s, qls_i0, qls_r0, qls_l0, qls_1, qls_2, qkl_i, qkl_r, qkl_l, qkl_n, qIsI_i, qIsL_l, qIsR_r, qint_i, qil_i, qil_r, qil_l, qf4_0, qf4_1, qf4_2, qf4_3, qf2_0, qf2_1, qcs_n, qcs_i, qcs_r, qcs_l, qst_n, qst_c, qJ_0, qJ_st, qJ_go, qfl_I, qfl_Z, qfl_L, qfl_R, qrI_i, qrL_l, qrV_v, qRcv_0, qRcv_s, eq_self, true_and, and_true, true_or, or_true, false_and, and_false, false_or, or_false, ite_true, if_true, if_false, Bool.true_or, Bool.false_or, Bool.or_false, beq_self_eq_true, Bool.false_eq_true, bX11_restAt_0, bX11_restAt_38, bX11_restAt_44, bX11_restAt_73, bX11_restAt_88, bX11_restAt_94, kX11_restAt_0, kX11_restAt_38, kX11_restAt_44, kX11_restAt_73, kX11_restAt_88, kX11_restAt_94, qK_0, qR_0_0, qK_1, qR_0_1, qK_13, qR_0_2, qK_25, qR_0_3, qK_40, qR_0_4, qK_41, qR_0_5, qK_45, qR_0_6, qK_46, qR_0_7, qK_50, qR_0_8, qK_53, qR_0_9, qK_66, qR_0_10, qK_74, qR_0_11, qK_80, qR_0_12, qK_82, qR_0_14, qK_83, qR_0_15, qK_84]
    exact g_no hA hW zCls.rf (by decide) (by unfold yRestAt; rw [if_pos hz]; rfl)
  refine qV.go 30 [38, 44] ok_197 ?_
  simp only [qW_nop, qW_iconst, qW_iconstm, qW_bipush, qW_ldc2, qW_lconst, qW_iloadn, qW_iload, qW_aloadn, qW_istore, qW_iadd, qW_idiv, qW_irem, qW_i2l, qW_ifeq, qW_ifne, qW_icne, qW_iflt, qW_goto, qW_getf, qW_iald, qW_cs3_0, qW_cv2_0, qW_iret0, Nat.reduceAdd, Nat.reduceMul, Nat.reduceBEq, Nat.reduceEqDiff, Nat.reduceLT, Nat.reduceLeDiff, Nat.zero_le, nI_add, nI_mul, nI_cl, qin_eq, qofI, qlg_0, qlg_s, qls_i0, qls_r0, qls_l0, qls_1, qls_2, qkl_i, qkl_r, qkl_l, qkl_n, qIsI_i, qIsL_l, qIsR_r, qint_i, qil_i, qil_r, qil_l, qf4_0, qf4_1, qf4_2, qf4_3, qf2_0, qf2_1, qcs_n, qcs_i, qcs_r, qcs_l, qst_n, qst_c, qJ_0, qJ_st, qJ_go, qfl_I, qfl_Z, qfl_L, qfl_R, qrI_i, qrL_l, qrV_v, qRcv_0, qRcv_s, eq_self, true_and, and_true, true_or, or_true, false_and, and_false, false_or, or_false, ite_true, if_true, if_false, Bool.true_or, Bool.false_or, Bool.or_false, beq_self_eq_true, Bool.false_eq_true, bX11_restAt_0, bX11_restAt_38, bX11_restAt_44, bX11_restAt_73, bX11_restAt_88, bX11_restAt_94, kX11_restAt_0, kX11_restAt_38, kX11_restAt_44, kX11_restAt_73, kX11_restAt_88, kX11_restAt_94, qK_0, qR_0_0, qK_1, qR_0_1, qK_13, qR_0_2, qK_25, qR_0_3, qK_40, qR_0_4, qK_41, qR_0_5, qK_45, qR_0_6, qK_46, qR_0_7, qK_50, qR_0_8, qK_53, qR_0_9, qK_66, qR_0_10, qK_74, qR_0_11, qK_80, qR_0_12, qK_82, qR_0_14, qK_83, qR_0_15, qK_84, qK_1, qR_1_6, qK_2, qR_1_7, qK_3, qR_1_8, qK_4, qR_1_9, qK_5, qR_1_10, qK_6, qR_1_11, qK_7, qR_1_12, qK_8, qR_1_13, qK_9, qR_1_14, qK_10, qR_1_15, qK_11, qR_1_16, qK_12]
  refine qBI.fn (x_hasQuarrel zCb_n hX.1 hw q) (by decide) ?_
  simp (disch := omega) only [nI_leI, nI_ltI, nI_eq, nI_cl, qin_eq, nI_add, nI_mul, qb_z, qb_t, qb_f, nI_ne0', Nat.reduceAdd, Bool.false_eq_true, if_false, if_true, true_and, and_true, Nat.reduceEqDiff, not_true_eq_false, not_false_eq_true, false_implies, true_implies, ite_true, ite_false, Bool.not_eq_false, Bool.not_eq_true]
  refine ⟨fun h1 => no (by rw [h1]; rfl), fun h1 => ?_⟩
  refine qBI.fn (x_withinI σ n (lo := 0) (hi := 20) (by decide) (by decide)) (by decide) ?_
  simp (disch := omega) only [nI_leI, nI_ltI, nI_eq, nI_cl, qin_eq, nI_add, nI_mul, qb_z, qb_t, qb_f, nI_ne0', Nat.reduceAdd, Bool.false_eq_true, if_false, if_true, true_and, and_true, Nat.reduceEqDiff, not_true_eq_false, not_false_eq_true, false_implies, true_implies, ite_true, ite_false, Bool.not_eq_false, Bool.not_eq_true]
  refine ⟨fun h2 => no (by rw [h2, Bool.and_false]; rfl), fun h2 => ?_⟩
  simp only [z0i, qlt, qle]
  refine ⟨fun h3 => no (by rw [decide_eq_false (by omega), Bool.and_false]; rfl), fun h3 => ?_⟩
  refine qBI.fn (x_withinI σ w (lo := 0) (hi := 1) (by decide) (by decide)) (by decide) ?_
  simp (disch := omega) only [nI_leI, nI_ltI, nI_eq, nI_cl, qin_eq, nI_add, nI_mul, qb_z, qb_t, qb_f, nI_ne0', Nat.reduceAdd, Bool.false_eq_true, if_false, if_true, true_and, and_true, Nat.reduceEqDiff, not_true_eq_false, not_false_eq_true, false_implies, true_implies, ite_true, ite_false, Bool.not_eq_false, Bool.not_eq_true]
  refine And.symm ⟨fun h4 => no (by rw [h4, Bool.and_false]), fun hz => ?_⟩
  obtain ⟨v, -, hv, rfl⟩ := zih_nI hz
  obtain ⟨i, hi, rfl⟩ := zrg_nI h1
  obtain ⟨m, -, hm, rfl⟩ := zih_nI h2
  obtain ⟨j, hj, rfl⟩ : ∃ j, j < 2147483648 ∧ k = nI j := by
    have := qx_range k
    refine ⟨k.toInt.toNat, by omega, ?_⟩
    rw [qeq, nI_t (by omega)]
    omega
  have eY : yRestAt A (nI i) (nI m) (nI j) (nI v) = match zseek (zrp (aC A 8 i) m) ((m + 1) * (m + 1)) 0 j with
    | none => yNo A 6
    | some x => yOk A (nI (if v = 0 then x / (m + 1) else x % (m + 1))) := by
    unfold yRestAt
    rw [if_neg (by rw [h1, h2, hz, decide_eq_true (show (0 : Int) ≤ (nI j).toInt by omega)]; decide), nI_tn (by omega), nI_tn (by omega), nI_tn (by omega), nI_tn (by omega)]
    cases zseek (zrp (aC A 8 i) m) ((m + 1) * (m + 1)) 0 j <;> rfl
  rw [eY]
  clear no eY
  have hg := (hw.2.2.2.2.2.2.2.2.2 i hi).2.2.2.1
  have e1 : σ.1 11 i = nI (aC A 8 i) := hX.1.gr hi
  refine qV.go 30 [94] ok_197 ?_
  simp only [qW_nop, qW_iconst, qW_iconstm, qW_bipush, qW_ldc2, qW_lconst, qW_iloadn, qW_iload, qW_aloadn, qW_istore, qW_iadd, qW_idiv, qW_irem, qW_i2l, qW_ifeq, qW_ifne, qW_icne, qW_iflt, qW_goto, qW_getf, qW_iald, qW_cs3_0, qW_cv2_0, qW_iret0, Nat.reduceAdd, Nat.reduceMul, Nat.reduceBEq, Nat.reduceEqDiff, Nat.reduceLT, Nat.reduceLeDiff, Nat.zero_le, nI_add, nI_mul, nI_cl, qin_eq, qofI, qlg_0, qlg_s, qls_i0, qls_r0, qls_l0, qls_1, qls_2, qkl_i, qkl_r, qkl_l, qkl_n, qIsI_i, qIsL_l, qIsR_r, qint_i, qil_i, qil_r, qil_l, qf4_0, qf4_1, qf4_2, qf4_3, qf2_0, qf2_1, qcs_n, qcs_i, qcs_r, qcs_l, qst_n, qst_c, qJ_0, qJ_st, qJ_go, qfl_I, qfl_Z, qfl_L, qfl_R, qrI_i, qrL_l, qrV_v, qRcv_0, qRcv_s, eq_self, true_and, and_true, true_or, or_true, false_and, and_false, false_or, or_false, ite_true, if_true, if_false, Bool.true_or, Bool.false_or, Bool.or_false, beq_self_eq_true, Bool.false_eq_true, bX11_restAt_0, bX11_restAt_38, bX11_restAt_44, bX11_restAt_73, bX11_restAt_88, bX11_restAt_94, kX11_restAt_0, kX11_restAt_38, kX11_restAt_44, kX11_restAt_73, kX11_restAt_88, kX11_restAt_94, qK_0, qR_0_0, qK_1, qR_0_1, qK_13, qR_0_2, qK_25, qR_0_3, qK_40, qR_0_4, qK_41, qR_0_5, qK_45, qR_0_6, qK_46, qR_0_7, qK_50, qR_0_8, qK_53, qR_0_9, qK_66, qR_0_10, qK_74, qR_0_11, qK_80, qR_0_12, qK_82, qR_0_14, qK_83, qR_0_15, qK_84, qK_1, qR_1_6, qK_2, qR_1_7, qK_3, qR_1_8, qK_4, qR_1_9, qK_5, qR_1_10, qK_6, qR_1_11, qK_7, qR_1_12, qK_8, qR_1_13, qK_9, qR_1_14, qK_10, qR_1_15, qK_11, qR_1_16, qK_12]
  simp (disch := omega) only [nI_leI, nI_ltI, nI_eq, nI_cl, qin_eq, nI_add, nI_mul, qb_z, qb_t, qb_f, nI_ne0', Nat.reduceAdd, Bool.false_eq_true, if_false, if_true, true_and, and_true, Nat.reduceEqDiff, not_true_eq_false, not_false_eq_true, false_implies, true_implies, ite_true, ite_false]
  rw [e1]
  refine qBI.fn (x_restOf σ (by omega) hm hj) (by decide) ?_
  cases hs : zseek (zrp (aC A 8 i) m) ((m + 1) * (m + 1)) 0 j with
  | none =>
    refine ⟨fun h => absurd rfl h, fun _ => ?_⟩
    exact g_no hA hW zCls.rf (by decide) rfl
  | some x =>
    have hx := zseek_lt _ _ _ _ _ hs
    rw [Nat.zero_add] at hx
    have hm21 : (m + 1) * (m + 1) ≤ 21 * 21 := Nat.mul_le_mul (by omega) (by omega)
    refine ⟨fun _ => ?_, fun h => absurd h (nI_nem (by omega))⟩
    simp (disch := omega) only [nI_leI, nI_ltI, nI_eq, nI_cl, qin_eq, nI_add, nI_mul, qb_z, qb_t, qb_f, nI_ne0', Nat.reduceAdd, Bool.false_eq_true, if_false, if_true, true_and, and_true, Nat.reduceEqDiff, not_true_eq_false, not_false_eq_true, false_implies, true_implies, ite_true, ite_false]
    refine ⟨fun h => ?_, fun h => ?_⟩
    · simp only [if_neg h]
      rw [nI_rem (by omega) (by omega) (by omega)]
      refine qV.go 30 [9999] ok_197 ?_
      simp only [qW_nop, qW_iconst, qW_iconstm, qW_bipush, qW_ldc2, qW_lconst, qW_iloadn, qW_iload, qW_aloadn, qW_istore, qW_iadd, qW_idiv, qW_irem, qW_i2l, qW_ifeq, qW_ifne, qW_icne, qW_iflt, qW_goto, qW_getf, qW_iald, qW_cs3_0, qW_cv2_0, qW_iret0, Nat.reduceAdd, Nat.reduceMul, Nat.reduceBEq, Nat.reduceEqDiff, Nat.reduceLT, Nat.reduceLeDiff, Nat.zero_le, nI_add, nI_mul, nI_cl, qin_eq, qofI, qlg_0, qlg_s, qls_i0, qls_r0, qls_l0, qls_1, qls_2, qkl_i, qkl_r, qkl_l, qkl_n, qIsI_i, qIsL_l, qIsR_r, qint_i, qil_i, qil_r, qil_l, qf4_0, qf4_1, qf4_2, qf4_3, qf2_0, qf2_1, qcs_n, qcs_i, qcs_r, qcs_l, qst_n, qst_c, qJ_0, qJ_st, qJ_go, qfl_I, qfl_Z, qfl_L, qfl_R, qrI_i, qrL_l, qrV_v, qRcv_0, qRcv_s, eq_self, true_and, and_true, true_or, or_true, false_and, and_false, false_or, or_false, ite_true, if_true, if_false, Bool.true_or, Bool.false_or, Bool.or_false, beq_self_eq_true, Bool.false_eq_true, bX11_restAt_0, bX11_restAt_38, bX11_restAt_44, bX11_restAt_73, bX11_restAt_88, bX11_restAt_94, kX11_restAt_0, kX11_restAt_38, kX11_restAt_44, kX11_restAt_73, kX11_restAt_88, kX11_restAt_94, qK_0, qR_0_0, qK_1, qR_0_1, qK_13, qR_0_2, qK_25, qR_0_3, qK_40, qR_0_4, qK_41, qR_0_5, qK_45, qR_0_6, qK_46, qR_0_7, qK_50, qR_0_8, qK_53, qR_0_9, qK_66, qR_0_10, qK_74, qR_0_11, qK_80, qR_0_12, qK_82, qR_0_14, qK_83, qR_0_15, qK_84]
      exact g_ok hA hW zCls.rf (by decide) rfl
    · simp only [if_pos h]
      rw [nI_div (by omega) (by omega) (by omega)]
      refine qV.go 30 [9999] ok_197 ?_
      simp only [qW_nop, qW_iconst, qW_iconstm, qW_bipush, qW_ldc2, qW_lconst, qW_iloadn, qW_iload, qW_aloadn, qW_istore, qW_iadd, qW_idiv, qW_irem, qW_i2l, qW_ifeq, qW_ifne, qW_icne, qW_iflt, qW_goto, qW_getf, qW_iald, qW_cs3_0, qW_cv2_0, qW_iret0, Nat.reduceAdd, Nat.reduceMul, Nat.reduceBEq, Nat.reduceEqDiff, Nat.reduceLT, Nat.reduceLeDiff, Nat.zero_le, nI_add, nI_mul, nI_cl, qin_eq, qofI, qlg_0, qlg_s, qls_i0, qls_r0, qls_l0, qls_1, qls_2, qkl_i, qkl_r, qkl_l, qkl_n, qIsI_i, qIsL_l, qIsR_r, qint_i, qil_i, qil_r, qil_l, qf4_0, qf4_1, qf4_2, qf4_3, qf2_0, qf2_1, qcs_n, qcs_i, qcs_r, qcs_l, qst_n, qst_c, qJ_0, qJ_st, qJ_go, qfl_I, qfl_Z, qfl_L, qfl_R, qrI_i, qrL_l, qrV_v, qRcv_0, qRcv_s, eq_self, true_and, and_true, true_or, or_true, false_and, and_false, false_or, or_false, ite_true, if_true, if_false, Bool.true_or, Bool.false_or, Bool.or_false, beq_self_eq_true, Bool.false_eq_true, bX11_restAt_0, bX11_restAt_38, bX11_restAt_44, bX11_restAt_73, bX11_restAt_88, bX11_restAt_94, kX11_restAt_0, kX11_restAt_38, kX11_restAt_44, kX11_restAt_73, kX11_restAt_88, kX11_restAt_94, qK_0, qR_0_0, qK_1, qR_0_1, qK_13, qR_0_2, qK_25, qR_0_3, qK_40, qR_0_4, qK_41, qR_0_5, qK_45, qR_0_6, qK_46, qR_0_7, qK_50, qR_0_8, qK_53, qR_0_9, qK_66, qR_0_10, qK_74, qR_0_11, qK_80, qR_0_12, qK_82, qR_0_14, qK_83, qR_0_15, qK_84]
      exact g_ok hA hW zCls.rf (by decide) rfl
set_option maxRecDepth 20000 in
theorem X_game {σ : qSg} {A : zA} (hA : zXA σ A) (hW : zAW A) (n : Int32) : qCI 18 198 [qr 0, qi n] σ (zXCall σ (yGame A n)) := by
  have hX := hA.x
  have hw := hW.w
  have h5 : aC A 0 5 ≤ 9999 := hW.1.2.1
  refine qCI.of [some (qr 0), some (qi n)] ok_198 (Nat.le_of_ble_eq_true rfl) rfl ?_
  refine qV.go 30 [9999] ok_198 ?_
  simp only [qW_nop, qW_iconst, qW_ldc2, qW_lconst, qW_iloadn, qW_aloadn, qW_i2l, qW_ifne, qW_getf, qW_cs3_0, qW_cv2_0, qW_cv3_0, qW_iret0, Nat.reduceAdd, Nat.reduceMul, Nat.reduceBEq, Nat.reduceEqDiff, Nat.reduceLT, Nat.reduceLeDiff, Nat.zero_le, nI_add, nI_mul, nI_cl, qin_eq, qofI, qlg_0, qlg_s, qls_i0, qls_r0, qls_l0, qls_1, qls_2, qkl_i, qkl_r, qkl_l, qkl_n, qIsI_i, qIsL_l, qIsR_r, qint_i, qil_i, qil_r, qil_l, qf4_0, qf4_1, qf4_2, qf4_3, qf2_0, qf2_1, qcs_n, qcs_i, qcs_r, qcs_l, qst_n, qst_c, qJ_0, qJ_st, qJ_go, qfl_I, qfl_Z, qfl_L, qfl_R, qrI_i, qrL_l, qrV_v, qRcv_0, qRcv_s, eq_self, true_and, and_true, true_or, or_true, false_and, and_false, false_or, or_false, ite_true, if_true, if_false, Bool.true_or, Bool.false_or, Bool.or_false, beq_self_eq_true, Bool.false_eq_true, bX11_game_0, bX11_game_18, kX11_game_0, kX11_game_18, qK_0, qR_0_0, qK_1, qR_0_1, qK_13, qR_0_2, qK_25, qR_0_3, qK_40, qR_0_4, qK_41, qR_0_5, qK_45, qR_0_6, qK_46, qR_0_7, qK_50, qR_0_8, qK_53, qR_0_9, qK_66, qR_0_10, qK_74, qR_0_11, qK_80, qR_0_12, qK_82, qR_0_14, qK_83, qR_0_15, qK_84, qK_1, qR_1_6, qK_2, qR_1_7, qK_3, qR_1_8, qK_4, qR_1_9, qK_5, qR_1_10, qK_6, qR_1_11, qK_7, qR_1_12, qK_8, qR_1_13, qK_9, qR_1_14, qK_10, qR_1_15, qK_11, qR_1_16, qK_12, qK_45, qR_45_0, qK_13, qR_45_1, qK_25]
  refine qBI.fn (x_withinI σ n (lo := 0) (hi := 3) (by decide) (by decide)) (by decide) ?_
  simp (disch := omega) only [nI_leI, nI_ltI, nI_eq, nI_cl, qin_eq, nI_add, nI_mul, qb_z, qb_t, qb_f, nI_ne0', Nat.reduceAdd, Bool.false_eq_true, if_false, if_true, true_and, and_true, Nat.reduceEqDiff, not_true_eq_false, not_false_eq_true, false_implies, true_implies, ite_true, ite_false, Bool.not_eq_false, Bool.not_eq_true]
  refine And.symm ⟨fun g => ?_, fun hz => ?_⟩
  · exact g_no hA hW zCls.rf (by decide) (by unfold yGame; rw [if_pos g]; rfl)
  obtain ⟨k, -, hk, rfl⟩ := zih_nI hz
  refine qBI.of (x_outcome hX hw (by omega) (turns := k) hk) (by decide) (fun v σ1 g1 => ?_)
  obtain ⟨rfl, f1⟩ := g1
  obtain ⟨hA1, c1⟩ := hA.pl hW f1 zPgm_s zRpl_s
  exact g_ok hA1 hW c1 (by decide) (by unfold yGame; rw [if_neg (by rw [hz]; decide), nI_tn (by omega)]; rfl)
set_option maxRecDepth 20000 in
theorem X_moveOf {σ : qSg} {A : zA} (hA : zXA σ A) (hW : zAW A) (n : Int32) : qCI 21 199 [qr 0, qi n] σ (zXCall σ (yMoveOf A n)) := by
  have hX := hA.x
  have hw := hW.w
  have wq := hw.2.1
  have h5 : aC A 0 5 ≤ 9999 := hW.1.2.1
  refine qCI.of [some (qr 0), some (qi n), none] ok_199 (Nat.le_of_ble_eq_true rfl) rfl ?_
  refine qV.go 30 [9999] ok_199 ?_
  simp only [qW_nop, qW_iconst, qW_iconstm, qW_bipush, qW_ldc2, qW_lconst, qW_iloadn, qW_aloadn, qW_istoren, qW_i2l, qW_ifne, qW_icne, qW_goto, qW_getf, qW_cs3_0, qW_cv2_0, qW_cv3_0, qW_iret0, Nat.reduceAdd, Nat.reduceMul, Nat.reduceBEq, Nat.reduceEqDiff, Nat.reduceLT, Nat.reduceLeDiff, Nat.zero_le, nI_add, nI_mul, nI_cl, qin_eq, qofI, qlg_0, qlg_s, qls_i0, qls_r0, qls_l0, qls_1, qls_2, qkl_i, qkl_r, qkl_l, qkl_n, qIsI_i, qIsL_l, qIsR_r, qint_i, qil_i, qil_r, qil_l, qf4_0, qf4_1, qf4_2, qf4_3, qf2_0, qf2_1, qcs_n, qcs_i, qcs_r, qcs_l, qst_n, qst_c, qJ_0, qJ_st, qJ_go, qfl_I, qfl_Z, qfl_L, qfl_R, qrI_i, qrL_l, qrV_v, qRcv_0, qRcv_s, eq_self, true_and, and_true, true_or, or_true, false_and, and_false, false_or, or_false, ite_true, if_true, if_false, Bool.true_or, Bool.false_or, Bool.or_false, beq_self_eq_true, Bool.false_eq_true, bX11_moveOf_0, bX11_moveOf_18, bX11_moveOf_45, bX11_moveOf_50, kX11_moveOf_0, kX11_moveOf_18, kX11_moveOf_45, kX11_moveOf_50, qK_0, qR_0_0, qK_1, qR_0_1, qK_13, qR_0_2, qK_25, qR_0_3, qK_40, qR_0_4, qK_41, qR_0_5, qK_45, qR_0_6, qK_46, qR_0_7, qK_50, qR_0_8, qK_53, qR_0_9, qK_66, qR_0_10, qK_74, qR_0_11, qK_80, qR_0_12, qK_82, qR_0_14, qK_83, qR_0_15, qK_84, qK_1, qR_1_6, qK_2, qR_1_7, qK_3, qR_1_8, qK_4, qR_1_9, qK_5, qR_1_10, qK_6, qR_1_11, qK_7, qR_1_12, qK_8, qR_1_13, qK_9, qR_1_14, qK_10, qR_1_15, qK_11, qR_1_16, qK_12, qK_45, qR_45_0, qK_13, qR_45_1, qK_25]
  refine qBI.fn (x_withinI σ n (lo := 1) (hi := 3) (by decide) (by decide)) (by decide) ?_
  simp (disch := omega) only [nI_leI, nI_ltI, nI_eq, nI_cl, qin_eq, nI_add, nI_mul, qb_z, qb_t, qb_f, nI_ne0', Nat.reduceAdd, Bool.false_eq_true, if_false, if_true, true_and, and_true, Nat.reduceEqDiff, not_true_eq_false, not_false_eq_true, false_implies, true_implies, ite_true, ite_false, Bool.not_eq_false, Bool.not_eq_true]
  refine And.symm ⟨fun g => ?_, fun hz => ?_⟩
  · exact g_no hA hW zCls.rf (by decide) (by unfold yMoveOf; rw [if_pos g]; rfl)
  obtain ⟨k, hk1, hk, rfl⟩ := zih_nI hz
  obtain ⟨f, rfl⟩ : ∃ f, k = f + 1 := ⟨k - 1, by omega⟩
  have eY : yMoveOf A (nI (f + 1)) = match zmove f 0 (aC A) with
    | none => yNo A 6
    | some s => if s.1 = aC A 0 1 then yNo A 6 else yOk A (nI s.1) := by
    unfold yMoveOf
    rw [if_neg (by rw [hz]; decide), nI_tn (by omega), Nat.add_sub_cancel]
    cases zmove f 0 (aC A) <;> rfl
  rw [eY]
  refine qBI.of (x_firstMove hX hw (by omega) (f := f) (by omega)) (by decide) (fun v σ1 g1 => ?_)
  obtain ⟨rfl, f1⟩ := g1
  obtain ⟨hA1, c1⟩ := hA.pl hW f1 zPgm_s zRpl_s
  cases e : zmove f 0 (aC A) with
  | none =>
    refine ⟨fun h => absurd rfl h, fun _ => ?_⟩
    exact g_no hA1 hW c1 (by decide) rfl
  | some s =>
    have hlt := zfold_lt _ _ e
    by_cases e2 : s.1 = aC A 0 1
    · simp only [if_pos e2]
      refine ⟨fun h => absurd trivial h, fun _ => ?_⟩
      exact g_no hA1 hW c1 (by decide) rfl
    · simp only [if_neg e2]
      refine ⟨fun _ => ?_, fun h => absurd h (nI_nem (by omega))⟩
      exact g_ok hA1 hW c1 (by decide) rfl
def zfr (σ : qSg) (n d : Nat) : qSg := qwl (qwl σ 0 18 (lN (n / Nat.gcd n d))) 0 19 (lN (d / Nat.gcd n d))
theorem zXA.fr {σ : qSg} {A : zA} (h : zXA σ A) (n d : Nat) : zXA (zfr σ n d) (sF A (zfrac n d)) ∧ zCls σ (zfr σ n d) := by
  obtain ⟨k1, k2, k3, k4, k5, k6, k7, k8, k9, k10⟩ := h
  have e2 : ∀ a j, ¬ a = 0 → (zfr σ n d).2 a j = σ.2 a j := fun a j hn => by unfold zfr; rw [qwl_2, if_neg (fun hh => hn hh.1), qwl_2, if_neg (fun hh => hn hh.1)]
  refine ⟨⟨k1.fr (fun a j ha => rfl) (fun j => e2 _ _ (by decide)), ⟨k2.1, fun i i1 i2 => (k2.2 i i1 i2).fr (fun a j ha => rfl) (fun j => e2 _ _ (by omega))⟩, k3.fr (fun j => rfl) (fun j => rfl) (fun j => e2 _ _ (by decide)), k4, k5.fr (fun j => e2 _ _ (by decide)), ⟨?_, ?_⟩, k7, k8, k9, k10⟩, (zG.wl (by decide)).tr (zG.wl (by decide))⟩
  · unfold zfr; rw [qwl_2, if_neg (by decide), qwl_2, if_pos ⟨rfl, rfl⟩]; rfl
  · unfold zfr; rw [qwl_2, if_pos ⟨rfl, rfl⟩]; rfl
set_option maxRecDepth 20000 in
theorem X_tellFraction (σ : qSg) {n d : Nat} (hn : n < 9223372036854775808) (hd : d < 9223372036854775808) (h0 : 0 < d) : qCV 2 143 [qr 0, ql (lN n), ql (lN d)] σ (fun σ' => σ' = zfr σ n d) := by
  refine qCV.of [some (qr 0), some (ql (lN n)), none, some (ql (lN d)), none, none, none] ok_143 (Nat.le_of_ble_eq_true rfl) rfl ?_
  refine qV.go 30 [9999] ok_143 ?_
  simp only [qW_nop, qW_lconst, qW_lloadn, qW_lload, qW_aloadn, qW_lstore, qW_ldiv, qW_lcmp, qW_ifge, qW_vret, qW_cs2_1, qW_putf1, Nat.reduceAdd, Nat.reduceMul, Nat.reduceBEq, Nat.reduceEqDiff, Nat.reduceLT, Nat.reduceLeDiff, Nat.zero_le, nI_add, nI_mul, nI_cl, qin_eq, qofI, qlg_0, qlg_s, qls_i0, qls_r0, qls_l0, qls_1, qls_2, qkl_i, qkl_r, qkl_l, qkl_n, qIsI_i, qIsL_l, qIsR_r, qint_i, qil_i, qil_r, qil_l, qf4_0, qf4_1, qf4_2, qf4_3, qf2_0, qf2_1, qcs_n, qcs_i, qcs_r, qcs_l, qst_n, qst_c, qJ_0, qJ_st, qJ_go, qfl_I, qfl_Z, qfl_L, qfl_R, qrI_i, qrL_l, qrV_v, qRcv_0, qRcv_s, eq_self, true_and, and_true, true_or, or_true, false_and, and_false, false_or, or_false, ite_true, if_true, if_false, Bool.true_or, Bool.false_or, Bool.or_false, beq_self_eq_true, Bool.false_eq_true, bX11_tellFraction_0, bX11_tellFraction_15, kX11_tellFraction_0, kX11_tellFraction_15, qK_0, qR_0_0, qK_1, qR_0_1, qK_13, qR_0_2, qK_25, qR_0_3, qK_40, qR_0_4, qK_41, qR_0_5, qK_45, qR_0_6, qK_46, qR_0_7, qK_50, qR_0_8, qK_53, qR_0_9, qK_66, qR_0_10, qK_74, qR_0_11, qK_80, qR_0_12, qK_82, qR_0_14, qK_83, qR_0_15, qK_84]
  refine qBL.of (x_gcd σ hn hd) (by decide) (fun v σ1 g1 => ?_)
  obtain ⟨rfl, rfl⟩ := g1
  have hg : 0 < Nat.gcd n d := Nat.gcd_pos_of_pos_right n h0
  have hg2 : Nat.gcd n d ≤ d := Nat.gcd_le_right n h0
  have hne : ¬ lN (Nat.gcd n d) = 0 := lN_ne0 (by omega) hg
  simp only [lg_cmp_lt, lg_cmp_gt, lg_cmp_le, lg_cmp_ge, qllt, qlle]
  rw [lN_t (show 1 < 2147483648 by decide), lN_t' (by omega)]
  refine ⟨fun _ => ⟨hne, hne, ?_⟩, fun h => absurd (by omega) h⟩
  unfold zfr
  rw [lN_div (by omega) (by omega) hg, lN_div (by omega) (by omega) hg]
set_option maxRecDepth 20000 in
theorem X_lived {σ : qSg} {A : zA} (hA : zXA σ A) (hW : zAW A) (w : Int32) : qCI 2 204 [qr 0, qi w] σ (zXCall σ (yLived A w)) := by
  obtain ⟨k1, k2, k3, k4, k5, k6, k7, k8, k9, k10⟩ := id hA
  refine qCI.of [some (qr 0), some (qi w)] ok_204 (Nat.le_of_ble_eq_true rfl) rfl ?_
  refine qV.go 30 [9999] ok_204 ?_
  simp only [qW_nop, qW_iconst, qW_bipush, qW_ldc2, qW_lconst, qW_iloadn, qW_aloadn, qW_i2l, qW_ifeq, qW_ifne, qW_goto, qW_getf, qW_iald, qW_cs3_0, qW_cv2_0, qW_iret0, Nat.reduceAdd, Nat.reduceMul, Nat.reduceBEq, Nat.reduceEqDiff, Nat.reduceLT, Nat.reduceLeDiff, Nat.zero_le, nI_add, nI_mul, nI_cl, qin_eq, qofI, qlg_0, qlg_s, qls_i0, qls_r0, qls_l0, qls_1, qls_2, qkl_i, qkl_r, qkl_l, qkl_n, qIsI_i, qIsL_l, qIsR_r, qint_i, qil_i, qil_r, qil_l, qf4_0, qf4_1, qf4_2, qf4_3, qf2_0, qf2_1, qcs_n, qcs_i, qcs_r, qcs_l, qst_n, qst_c, qJ_0, qJ_st, qJ_go, qfl_I, qfl_Z, qfl_L, qfl_R, qrI_i, qrL_l, qrV_v, qRcv_0, qRcv_s, eq_self, true_and, and_true, true_or, or_true, false_and, and_false, false_or, or_false, ite_true, if_true, if_false, Bool.true_or, Bool.false_or, Bool.or_false, beq_self_eq_true, Bool.false_eq_true, bX11_lived_0, bX11_lived_18, bX11_lived_38, bX11_lived_44, kX11_lived_0, kX11_lived_18, kX11_lived_38, kX11_lived_44, qK_0, qR_0_0, qK_1, qR_0_1, qK_13, qR_0_2, qK_25, qR_0_3, qK_40, qR_0_4, qK_41, qR_0_5, qK_45, qR_0_6, qK_46, qR_0_7, qK_50, qR_0_8, qK_53, qR_0_9, qK_66, qR_0_10, qK_74, qR_0_11, qK_80, qR_0_12, qK_82, qR_0_14, qK_83, qR_0_15, qK_84, qK_82]
  refine qBI.fn (x_withinI σ w (lo := 0) (hi := 4) (by decide) (by decide)) (by decide) ?_
  simp (disch := omega) only [nI_leI, nI_ltI, nI_eq, nI_cl, qin_eq, nI_add, nI_mul, qb_z, qb_t, qb_f, nI_ne0', Nat.reduceAdd, Bool.false_eq_true, if_false, if_true, true_and, and_true, Nat.reduceEqDiff, not_true_eq_false, not_false_eq_true, false_implies, true_implies, ite_true, ite_false, Bool.not_eq_false, Bool.not_eq_true]
  refine And.symm ⟨fun g => ?_, fun hz => ?_⟩
  · exact g_no hA hW zCls.rf (by decide) (by unfold yLived; rw [if_pos g]; rfl)
  obtain ⟨k, -, hk, rfl⟩ := zih_nI hz
  have eY : yLived A (nI k) = if (aD A).1 = true then yOk A (nI ((aD A).2 k)) else yNo A 6 := by
    unfold yLived
    rw [if_neg (by rw [hz]; decide), nI_tn (by omega)]
  rw [eY]
  have e1 := k9.1
  have e2 := k9.2
  rw [e1]
  revert e2
  generalize (aD A).1 = bl
  intro e2
  simp (disch := omega) only [nI_leI, nI_ltI, nI_eq, nI_cl, qin_eq, nI_add, nI_mul, qb_z, qb_t, qb_f, nI_ne0', Nat.reduceAdd, Bool.false_eq_true, if_false, if_true, true_and, and_true, Nat.reduceEqDiff, not_true_eq_false, not_false_eq_true, false_implies, true_implies, ite_true, ite_false]
  refine ⟨fun h => ?_, fun h => ?_⟩
  · rw [if_neg (by rw [h]; decide)]
    exact g_no hA hW zCls.rf (by decide) rfl
  · have h : bl = true := by simpa using h
    rw [if_pos h, e2 h k (by omega)]
    exact g_ok hA hW zCls.rf (by decide) rfl
theorem zsum_le {f : Nat → Nat} {b : Nat} (h : ∀ i, f i ≤ b) : ∀ n, zsum n f ≤ n * b
  | 0 => Nat.zero_le _
  | n + 1 => by
    have ih := zsum_le h n
    have := h n
    simp only [zsum]
    rw [Nat.succ_mul]
    omega
set_option maxRecDepth 20000 in
theorem X_night {σ : qSg} {A : zA} (hA : zXA σ A) (hW : zAW A) (k : Int32) : qCI 3 200 [qr 0, qi k] σ (zXCall σ (yNight A k)) := by
  have hX := hA.x
  have hw := hW.w
  have wq := hw.2.1
  have wo : aC A 0 4 ≤ 16 := hw.2.2.2.2.2.2.1
  refine qCI.of [some (qr 0), some (qi k), none] ok_200 (Nat.le_of_ble_eq_true rfl) rfl ?_
  refine qV.go 30 [9999] ok_200 ?_
  simp only [qW_nop, qW_iconst, qW_ldc2, qW_lconst, qW_iloadn, qW_aloadn, qW_istoren, qW_i2l, qW_ifne, qW_getf, qW_cs1_0, qW_cs2_1, qW_cs3_0, qW_cs3_1, qW_cv1_0, qW_cv2_0, qW_cv3_2, qW_iret1, Nat.reduceAdd, Nat.reduceMul, Nat.reduceBEq, Nat.reduceEqDiff, Nat.reduceLT, Nat.reduceLeDiff, Nat.zero_le, nI_add, nI_mul, nI_cl, qin_eq, qofI, qlg_0, qlg_s, qls_i0, qls_r0, qls_l0, qls_1, qls_2, qkl_i, qkl_r, qkl_l, qkl_n, qIsI_i, qIsL_l, qIsR_r, qint_i, qil_i, qil_r, qil_l, qf4_0, qf4_1, qf4_2, qf4_3, qf2_0, qf2_1, qcs_n, qcs_i, qcs_r, qcs_l, qst_n, qst_c, qJ_0, qJ_st, qJ_go, qfl_I, qfl_Z, qfl_L, qfl_R, qrI_i, qrL_l, qrV_v, qRcv_0, qRcv_s, eq_self, true_and, and_true, true_or, or_true, false_and, and_false, false_or, or_false, ite_true, if_true, if_false, Bool.true_or, Bool.false_or, Bool.or_false, beq_self_eq_true, Bool.false_eq_true, bX11_night_0, bX11_night_18, kX11_night_0, kX11_night_18, qK_0, qR_0_0, qK_1, qR_0_1, qK_13, qR_0_2, qK_25, qR_0_3, qK_40, qR_0_4, qK_41, qR_0_5, qK_45, qR_0_6, qK_46, qR_0_7, qK_50, qR_0_8, qK_53, qR_0_9, qK_66, qR_0_10, qK_74, qR_0_11, qK_80, qR_0_12, qK_82, qR_0_14, qK_83, qR_0_15, qK_84, qK_1, qR_1_6, qK_2, qR_1_7, qK_3, qR_1_8, qK_4, qR_1_9, qK_5, qR_1_10, qK_6, qR_1_11, qK_7, qR_1_12, qK_8, qR_1_13, qK_9, qR_1_14, qK_10, qR_1_15, qK_11, qR_1_16, qK_12]
  refine qBI.fn (x_withinI σ k (lo := 0) (hi := 10) (by decide) (by decide)) (by decide) ?_
  simp (disch := omega) only [nI_leI, nI_ltI, nI_eq, nI_cl, qin_eq, nI_add, nI_mul, qb_z, qb_t, qb_f, nI_ne0', Nat.reduceAdd, Bool.false_eq_true, if_false, if_true, true_and, and_true, Nat.reduceEqDiff, not_true_eq_false, not_false_eq_true, false_implies, true_implies, ite_true, ite_false, Bool.not_eq_false, Bool.not_eq_true]
  refine And.symm ⟨fun g => ?_, fun hz => ?_⟩
  · exact g_deny hA hW zCls.rf (by decide) (by unfold yNight; rw [if_pos g]; rfl)
  obtain ⟨m, -, hm, rfl⟩ := zih_nI hz
  have eY : yNight A (nI m) = yT (sF A (zfrac (znsum (aC A 0 4) (zcount (zOpen (aC A)) (aC A 0 1)) (m + 1)) (16 ^ zcount (zOpen (aC A)) (aC A 0 1)))) := by
    unfold yNight
    rw [if_neg (by rw [hz]; decide), nI_tn (by omega)]
  rw [eY]
  refine qBI.fn (x_openSet zCb_n hX.1 hw) (by decide) ?_
  have ho := zopens_lt hw
  refine qBI.fn (x_bits σ (by omega)) (by decide) ?_
  have ep : zpop (zopens (aC A)) = zcount (zOpen (aC A)) (aC A 0 1) := zpop_bm (by omega)
  have hc := zcount_le (zOpen (aC A)) (aC A 0 1)
  rw [ep]
  have e2 : σ.1 1 2 = nI (aC A 0 4) := hX.1.o
  rw [e2]
  generalize zcount (zOpen (aC A)) (aC A 0 1) = c at hc ⊢
  refine qBL.of (x_nights σ (n := c) (k := m) (by omega) hm wo) (by decide) (fun v σ1 g1 => ?_)
  obtain ⟨rfl, rfl⟩ := g1
  refine qBL.of (x_power σ1 16 (t := c) (by omega)) (by decide) (fun v σ2 g2 => ?_)
  obtain ⟨rfl, rfl⟩ := g2
  have b1 : 16 ^ c ≤ 16 ^ 10 := Nat.pow_le_pow_right (by decide) (by omega)
  have b2 : znsum (aC A 0 4) c (m + 1) ≤ (m + 1) * 16 ^ c := zsum_le (fun i => zni_le wo c i) (m + 1)
  have b3 : (m + 1) * 16 ^ c ≤ 11 * 16 ^ 10 := Nat.mul_le_mul (by omega) b1
  refine qBV.of (X_tellFraction σ2 (n := znsum (aC A 0 4) c (m + 1)) (d := 16 ^ c) (by omega) (by omega) (Nat.pow_pos (by decide))) (by decide) (fun σ3 g3 => ?_)
  subst g3
  have F := hA.fr (znsum (aC A 0 4) c (m + 1)) (16 ^ c)
  exact g_grant F.1 hW F.2 (by decide) rfl
set_option maxRecDepth 20000 in
theorem X_wakes {σ : qSg} {A : zA} (hA : zXA σ A) (hW : zAW A) (b : Int32) : qCI 3 201 [qr 0, qi b] σ (zXCall σ (yWakes A b)) := by
  have hX := hA.x
  have hw := hW.w
  have wb := hw.1
  have wo : aC A 0 4 ≤ 16 := hw.2.2.2.2.2.2.1
  refine qCI.of [some (qr 0), some (qi b), none] ok_201 (Nat.le_of_ble_eq_true rfl) rfl ?_
  refine qV.go 30 [9999] ok_201 ?_
  simp only [qW_nop, qW_iconst, qW_ldc2, qW_iloadn, qW_aloadn, qW_istoren, qW_i2l, qW_ifne, qW_getf, qW_cs2_1, qW_cv1_0, qW_cv2_0, qW_cv3_2, qW_iret1, Nat.reduceAdd, Nat.reduceMul, Nat.reduceBEq, Nat.reduceEqDiff, Nat.reduceLT, Nat.reduceLeDiff, Nat.zero_le, nI_add, nI_mul, nI_cl, qin_eq, qofI, qlg_0, qlg_s, qls_i0, qls_r0, qls_l0, qls_1, qls_2, qkl_i, qkl_r, qkl_l, qkl_n, qIsI_i, qIsL_l, qIsR_r, qint_i, qil_i, qil_r, qil_l, qf4_0, qf4_1, qf4_2, qf4_3, qf2_0, qf2_1, qcs_n, qcs_i, qcs_r, qcs_l, qst_n, qst_c, qJ_0, qJ_st, qJ_go, qfl_I, qfl_Z, qfl_L, qfl_R, qrI_i, qrL_l, qrV_v, qRcv_0, qRcv_s, eq_self, true_and, and_true, true_or, or_true, false_and, and_false, false_or, or_false, ite_true, if_true, if_false, Bool.true_or, Bool.false_or, Bool.or_false, beq_self_eq_true, Bool.false_eq_true, bX11_wakes_0, bX11_wakes_17, kX11_wakes_0, kX11_wakes_17, qK_0, qR_0_0, qK_1, qR_0_1, qK_13, qR_0_2, qK_25, qR_0_3, qK_40, qR_0_4, qK_41, qR_0_5, qK_45, qR_0_6, qK_46, qR_0_7, qK_50, qR_0_8, qK_53, qR_0_9, qK_66, qR_0_10, qK_74, qR_0_11, qK_80, qR_0_12, qK_82, qR_0_14, qK_83, qR_0_15, qK_84, qK_1, qR_1_6, qK_2, qR_1_7, qK_3, qR_1_8, qK_4, qR_1_9, qK_5, qR_1_10, qK_6, qR_1_11, qK_7, qR_1_12, qK_8, qR_1_13, qK_9, qR_1_14, qK_10, qR_1_15, qK_11, qR_1_16, qK_12]
  refine qBI.fn (x_hasBoy zCb_n hX.1 hw b) (by decide) ?_
  simp (disch := omega) only [nI_leI, nI_ltI, nI_eq, nI_cl, qin_eq, nI_add, nI_mul, qb_z, qb_t, qb_f, nI_ne0', Nat.reduceAdd, Bool.false_eq_true, if_false, if_true, true_and, and_true, Nat.reduceEqDiff, not_true_eq_false, not_false_eq_true, false_implies, true_implies, ite_true, ite_false, Bool.not_eq_false, Bool.not_eq_true]
  refine And.symm ⟨fun g => ?_, fun hz => ?_⟩
  · exact g_deny hA hW zCls.rf (by decide) (by unfold yWakes; rw [if_pos g]; rfl)
  obtain ⟨i, hi, rfl⟩ := zrg_nI hz
  have eY : yWakes A (nI i) = yT (sF A (zfrac (aC A 0 4 ^ zpop (zof (aC A) i)) (16 ^ zpop (zof (aC A) i)))) := by
    unfold yWakes
    rw [if_neg (by rw [hz]; decide), nI_tn (by omega)]
  rw [eY]
  refine qBI.fn (x_openOf zCb_n hX.1 hw hi) (by decide) ?_
  have hl := zof_lt hw i
  have hp : zpop (zof (aC A) i) ≤ 10 := zpop_le (k := 10) (by omega)
  have e2 : σ.1 1 2 = nI (aC A 0 4) := hX.1.o
  rw [e2]
  generalize zpop (zof (aC A) i) = c at hp ⊢
  rw [nI_l' (by omega)]
  refine qBL.of (x_power σ (aC A 0 4) (t := c) (by omega)) (by decide) (fun v σ1 g1 => ?_)
  obtain ⟨rfl, rfl⟩ := g1
  refine qBL.of (x_power σ1 16 (t := c) (by omega)) (by decide) (fun v σ2 g2 => ?_)
  obtain ⟨rfl, rfl⟩ := g2
  have b1 : 16 ^ c ≤ 16 ^ 10 := Nat.pow_le_pow_right (by decide) (by omega)
  have b2 : aC A 0 4 ^ c ≤ 16 ^ 10 := Nat.le_trans (Nat.pow_le_pow_left wo c) b1
  refine qBV.of (X_tellFraction σ2 (n := aC A 0 4 ^ c) (d := 16 ^ c) (by omega) (by omega) (Nat.pow_pos (by decide))) (by decide) (fun σ3 g3 => ?_)
  subst g3
  have F := hA.fr (aC A 0 4 ^ c) (16 ^ c)
  exact g_grant F.1 hW F.2 (by decide) rfl
