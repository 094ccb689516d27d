/-! the class's calls: prides that fit, whom to ask -/
theorem zps_pop (F : Nat → Bool) : zpop (bm 31 (zps F)) = zcount (fun i => F (i + 1)) 30 := by
  rw [zpop_cnt (bm_lt 31 _) (by decide), zcount_cg (p' := zps F) 31 (fun i hi => by rw [bm_bit, decide_eq_true hi]; rfl), zcount_sh]
  have e : zps F 0 = false := rfl
  rw [e, if_neg (by decide), Nat.zero_add]
  exact zcount_cg 30 fun i _ => by unfold zps; rw [decide_eq_true (by omega)]; rfl
theorem zps_lt (F : Nat → Bool) : bm 31 (zps F) < 2147483648 := bm_lt 31 _
theorem zps_0 (F : Nat → Bool) : (bm 31 (zps F) = 0) = (zcount (fun i => F (i + 1)) 30 = 0) := by
  apply propext
  rw [← zps_pop]
  constructor
  · intro h; rw [h, zpop_0]
  · intro h
    rcases Nat.eq_zero_or_pos (bm 31 (zps F)) with e | e
    · exact e
    · have := zpopf_pos 32 (bm 31 (zps F)) (by omega) (Nat.lt_of_lt_of_le (bm_lt 31 _) (by decide))
      unfold zpop at h
      omega
set_option maxRecDepth 20000 in
theorem X_fits {σ : qSg} {A : zA} (hA : zXA σ A) (hW : zAW A) (b t n : Int32) : qCI 7 193 [qr 0, qi b, qi t, qi n] σ (zXCall σ (yFits A b t n)) := by
  have hl := zwrong_lt (aC A) (aT A) b t n
  refine qCI.of [some (qr 0), some (qi b), some (qi t), some (qi n), none] ok_193 (Nat.le_of_ble_eq_true rfl) rfl ?_
  refine qV.go 30 [9999] ok_193 ?_
  simp only [qW_nop, qW_iloadn, qW_iload, qW_aloadn, qW_istore, qW_ifeq, qW_cs1_0, qW_cv2_0, qW_cv4_0, qW_iret0, Nat.reduceAdd, Nat.reduceMul, Nat.reduceBEq, Nat.reduceEqDiff, Nat.reduceLT, Nat.reduceLeDiff, Nat.zero_le, nI_add, nI_mul, nI_cl, qin_eq, qofI, qlg_0, qlg_s, qls_i0, qls_r0, qls_l0, qls_1, qls_2, qkl_i, qkl_r, qkl_l, qkl_n, qIsI_i, qIsL_l, qIsR_r, qint_i, qil_i, qil_r, qil_l, qf4_0, qf4_1, qf4_2, qf4_3, qf2_0, qf2_1, qcs_n, qcs_i, qcs_r, qcs_l, qst_n, qst_c, qJ_0, qJ_st, qJ_go, qfl_I, qfl_Z, qfl_L, qfl_R, qrI_i, qrL_l, qrV_v, qRcv_0, qRcv_s, eq_self, true_and, and_true, true_or, or_true, false_and, and_false, false_or, or_false, ite_true, if_true, if_false, Bool.true_or, Bool.false_or, Bool.or_false, beq_self_eq_true, Bool.false_eq_true, bX11_fits_0, bX11_fits_21, kX11_fits_0, kX11_fits_21, qK_0, qR_0_0, qK_1, qR_0_1, qK_13, qR_0_2, qK_25, qR_0_3, qK_40, qR_0_4, qK_41, qR_0_5, qK_45, qR_0_6, qK_46, qR_0_7, qK_50, qR_0_8, qK_53, qR_0_9, qK_66, qR_0_10, qK_74, qR_0_11, qK_80, qR_0_12, qK_82, qR_0_14, qK_83, qR_0_15, qK_84]
  refine qBI.fn (X_clueStatus hA hW b t n) (by decide) ?_
  rw [nI_ne0' (by omega)]
  refine And.symm ⟨fun g => ?_, fun g => ?_⟩
  · exact g_no hA hW zCls.rf (by decide) (by unfold yFits; rw [if_pos g]; rfl)
  · have g0 : zwrong (aC A) (aT A) b t n = 0 := by omega
    have eY : yFits A b t n = yOk A (nI (zcount (fun i => zfitA A b t n (i + 1)) 30)) := by unfold yFits; rw [if_neg (by omega)]
    rw [eY]
    unfold zfitA
    clear eY hl
    obtain ⟨b', t', n', m, hb, rfl, ht, rfl, hn, rfl, hm, hm2, hv⟩ := zwrong_ok g0
    have wb := hW.w.1
    rw [nI_tn (by omega), nI_tn (by omega), nI_tn (by omega)]
    refine qBI.of (X_fittingPrides hA hW hb ht hn hm hm2 hv) (by decide) (fun r σ1 g1 => ?_)
    obtain ⟨rfl, -, hA1, c1⟩ := g1
    refine qBI.fn (x_bits σ1 (zps_lt _)) (by decide) ?_
    rw [zps_pop]
    exact g_ok hA1 hW c1 (by decide) rfl
set_option maxRecDepth 20000 in
theorem X_fitsAt {σ : qSg} {A : zA} (hA : zXA σ A) (hW : zAW A) (b t n w : Int32) : qCI 7 194 [qr 0, qi b, qi t, qi n, qi w] σ (zXCall σ (yFitsAt A b t n w)) := by
  have hl := zwrong_lt (aC A) (aT A) b t n
  refine qCI.of [some (qr 0), some (qi b), some (qi t), some (qi n), some (qi w), none, none] ok_194 (Nat.le_of_ble_eq_true rfl) rfl ?_
  refine qV.go 30 [22] ok_194 ?_
  simp only [qW_nop, qW_iconst, qW_bipush, qW_lconst, qW_iloadn, qW_iload, qW_aloadn, qW_istore, qW_i2l, qW_ifeq, qW_ifne, qW_goto, qW_cs1_0, qW_cs3_0, qW_cv2_0, qW_cv4_0, qW_iret0, Nat.reduceAdd, Nat.reduceMul, Nat.reduceBEq, Nat.reduceEqDiff, Nat.reduceLT, Nat.reduceLeDiff, Nat.zero_le, nI_add, nI_mul, nI_cl, qin_eq, qofI, qlg_0, qlg_s, qls_i0, qls_r0, qls_l0, qls_1, qls_2, qkl_i, qkl_r, qkl_l, qkl_n, qIsI_i, qIsL_l, qIsR_r, qint_i, qil_i, qil_r, qil_l, qf4_0, qf4_1, qf4_2, qf4_3, qf2_0, qf2_1, qcs_n, qcs_i, qcs_r, qcs_l, qst_n, qst_c, qJ_0, qJ_st, qJ_go, qfl_I, qfl_Z, qfl_L, qfl_R, qrI_i, qrL_l, qrV_v, qRcv_0, qRcv_s, eq_self, true_and, and_true, true_or, or_true, false_and, and_false, false_or, or_false, ite_true, if_true, if_false, Bool.true_or, Bool.false_or, Bool.or_false, beq_self_eq_true, Bool.false_eq_true, bX11_fitsAt_0, bX11_fitsAt_21, bX11_fitsAt_22, bX11_fitsAt_36, bX11_fitsAt_57, bX11_fitsAt_71, bX11_fitsAt_76, kX11_fitsAt_0, kX11_fitsAt_21, kX11_fitsAt_22, kX11_fitsAt_36, kX11_fitsAt_57, kX11_fitsAt_71, kX11_fitsAt_76, qK_0, qR_0_0, qK_1, qR_0_1, qK_13, qR_0_2, qK_25, qR_0_3, qK_40, qR_0_4, qK_41, qR_0_5, qK_45, qR_0_6, qK_46, qR_0_7, qK_50, qR_0_8, qK_53, qR_0_9, qK_66, qR_0_10, qK_74, qR_0_11, qK_80, qR_0_12, qK_82, qR_0_14, qK_83, qR_0_15, qK_84]
  refine qBI.fn (x_withinI σ w (lo := 0) (hi := 1) (by decide) (by decide)) (by decide) ?_
  simp (disch := omega) only [nI_leI, nI_ltI, nI_eq, nI_cl, qin_eq, nI_add, nI_mul, qb_z, qb_t, qb_f, nI_ne0', Nat.reduceAdd, Bool.false_eq_true, if_false, if_true, true_and, and_true, Nat.reduceEqDiff, not_true_eq_false, not_false_eq_true, false_implies, true_implies, ite_true, ite_false, Bool.not_eq_false, Bool.not_eq_true]
  have no : ∀ k, k < 10 → k ≠ 0 → yFitsAt A b t n w = yNo A k → qV 194 7 (.inl (zXCall σ (yFitsAt A b t n w))) 22 [some (qr 0), some (qi b), some (qi t), some (qi n), some (qi w), none, none] [qi (nI k)] σ := by
    intro k hk k0 e
    refine qV.go 30 [36] ok_194 ?_
    simp only [qW_nop, qW_iconst, qW_bipush, qW_lconst, qW_iloadn, qW_iload, qW_aloadn, qW_istore, qW_i2l, qW_ifeq, qW_ifne, qW_goto, qW_cs1_0, qW_cs3_0, qW_cv2_0, qW_cv4_0, qW_iret0, Nat.reduceAdd, Nat.reduceMul, Nat.reduceBEq, Nat.reduceEqDiff, Nat.reduceLT, Nat.reduceLeDiff, Nat.zero_le, nI_add, nI_mul, nI_cl, qin_eq, qofI, qlg_0, qlg_s, qls_i0, qls_r0, qls_l0, qls_1, qls_2, qkl_i, qkl_r, qkl_l, qkl_n, qIsI_i, qIsL_l, qIsR_r, qint_i, qil_i, qil_r, qil_l, qf4_0, qf4_1, qf4_2, qf4_3, qf2_0, qf2_1, qcs_n, qcs_i, qcs_r, qcs_l, qst_n, qst_c, qJ_0, qJ_st, qJ_go, qfl_I, qfl_Z, qfl_L, qfl_R, qrI_i, qrL_l, qrV_v, qRcv_0, qRcv_s, eq_self, true_and, and_true, true_or, or_true, false_and, and_false, false_or, or_false, ite_true, if_true, if_false, Bool.true_or, Bool.false_or, Bool.or_false, beq_self_eq_true, Bool.false_eq_true, bX11_fitsAt_0, bX11_fitsAt_21, bX11_fitsAt_22, bX11_fitsAt_36, bX11_fitsAt_57, bX11_fitsAt_71, bX11_fitsAt_76, kX11_fitsAt_0, kX11_fitsAt_21, kX11_fitsAt_22, kX11_fitsAt_36, kX11_fitsAt_57, kX11_fitsAt_71, kX11_fitsAt_76, qK_0, qR_0_0, qK_1, qR_0_1, qK_13, qR_0_2, qK_25, qR_0_3, qK_40, qR_0_4, qK_41, qR_0_5, qK_45, qR_0_6, qK_46, qR_0_7, qK_50, qR_0_8, qK_53, qR_0_9, qK_66, qR_0_10, qK_74, qR_0_11, qK_80, qR_0_12, qK_82, qR_0_14, qK_83, qR_0_15, qK_84]
    simp (disch := omega) only [nI_leI, nI_ltI, nI_eq, nI_cl, qin_eq, nI_add, nI_mul, qb_z, qb_t, qb_f, nI_ne0', Nat.reduceAdd, Bool.false_eq_true, if_false, if_true, true_and, and_true, Nat.reduceEqDiff, not_true_eq_false, not_false_eq_true, false_implies, true_implies, ite_true, ite_false]
    refine And.symm ⟨fun _ => ?_, fun h => absurd h k0⟩
    exact g_no hA hW zCls.rf (by decide) (by rw [e]; rfl)
  refine ⟨fun h => no 1 (by omega) (by omega) (by unfold yFitsAt; rw [if_pos h]), fun hz => ?_⟩
  obtain ⟨v, -, hv, rfl⟩ := zih_nI hz
  refine qBI.fn (X_clueStatus hA hW b t n) (by decide) ?_
  by_cases g0 : zwrong (aC A) (aT A) b t n = 0
  · have eY : yFitsAt A b t n (nI v) = if zcount (fun i => zfitA A b t n (i + 1)) 30 = 0 then yNo A 6 else yOk A (nI (if v = 0 then zlst (zfitA A b t n) 30 1 else zgrt (zfitA A b t n) 30)) := by
      unfold yFitsAt
      rw [if_neg (by rw [hz]; decide), if_neg (by omega), nI_tn (by omega)]
    rw [eY, g0]
    unfold zfitA
    clear no eY hl
    obtain ⟨b', t', n', m, hb, rfl, ht, rfl, hn, rfl, hm, hm2, hv2⟩ := zwrong_ok g0
    have wb := hW.w.1
    rw [nI_tn (by omega), nI_tn (by omega), nI_tn (by omega)]
    refine qV.go 30 [36] ok_194 ?_
    simp only [qW_nop, qW_iconst, qW_bipush, qW_lconst, qW_iloadn, qW_iload, qW_aloadn, qW_istore, qW_i2l, qW_ifeq, qW_ifne, qW_goto, qW_cs1_0, qW_cs3_0, qW_cv2_0, qW_cv4_0, qW_iret0, Nat.reduceAdd, Nat.reduceMul, Nat.reduceBEq, Nat.reduceEqDiff, Nat.reduceLT, Nat.reduceLeDiff, Nat.zero_le, nI_add, nI_mul, nI_cl, qin_eq, qofI, qlg_0, qlg_s, qls_i0, qls_r0, qls_l0, qls_1, qls_2, qkl_i, qkl_r, qkl_l, qkl_n, qIsI_i, qIsL_l, qIsR_r, qint_i, qil_i, qil_r, qil_l, qf4_0, qf4_1, qf4_2, qf4_3, qf2_0, qf2_1, qcs_n, qcs_i, qcs_r, qcs_l, qst_n, qst_c, qJ_0, qJ_st, qJ_go, qfl_I, qfl_Z, qfl_L, qfl_R, qrI_i, qrL_l, qrV_v, qRcv_0, qRcv_s, eq_self, true_and, and_true, true_or, or_true, false_and, and_false, false_or, or_false, ite_true, if_true, if_false, Bool.true_or, Bool.false_or, Bool.or_false, beq_self_eq_true, Bool.false_eq_true, bX11_fitsAt_0, bX11_fitsAt_21, bX11_fitsAt_22, bX11_fitsAt_36, bX11_fitsAt_57, bX11_fitsAt_71, bX11_fitsAt_76, kX11_fitsAt_0, kX11_fitsAt_21, kX11_fitsAt_22, kX11_fitsAt_36, kX11_fitsAt_57, kX11_fitsAt_71, kX11_fitsAt_76, qK_0, qR_0_0, qK_1, qR_0_1, qK_13, qR_0_2, qK_25, qR_0_3, qK_40, qR_0_4, qK_41, qR_0_5, qK_45, qR_0_6, qK_46, qR_0_7, qK_50, qR_0_8, qK_53, qR_0_9, qK_66, qR_0_10, qK_74, qR_0_11, qK_80, qR_0_12, qK_82, qR_0_14, qK_83, qR_0_15, qK_84]
    simp (disch := omega) only [nI_leI, nI_ltI, nI_eq, nI_cl, qin_eq, nI_add, nI_mul, qb_z, qb_t, qb_f, nI_ne0', Nat.reduceAdd, Bool.false_eq_true, if_false, if_true, true_and, and_true, Nat.reduceEqDiff, not_true_eq_false, not_false_eq_true, false_implies, true_implies, ite_true, ite_false]
    refine qV.go 30 [76] ok_194 ?_
    simp only [qW_nop, qW_iconst, qW_bipush, qW_lconst, qW_iloadn, qW_iload, qW_aloadn, qW_istore, qW_i2l, qW_ifeq, qW_ifne, qW_goto, qW_cs1_0, qW_cs3_0, qW_cv2_0, qW_cv4_0, qW_iret0, Nat.reduceAdd, Nat.reduceMul, Nat.reduceBEq, Nat.reduceEqDiff, Nat.reduceLT, Nat.reduceLeDiff, Nat.zero_le, nI_add, nI_mul, nI_cl, qin_eq, qofI, qlg_0, qlg_s, qls_i0, qls_r0, qls_l0, qls_1, qls_2, qkl_i, qkl_r, qkl_l, qkl_n, qIsI_i, qIsL_l, qIsR_r, qint_i, qil_i, qil_r, qil_l, qf4_0, qf4_1, qf4_2, qf4_3, qf2_0, qf2_1, qcs_n, qcs_i, qcs_r, qcs_l, qst_n, qst_c, qJ_0, qJ_st, qJ_go, qfl_I, qfl_Z, qfl_L, qfl_R, qrI_i, qrL_l, qrV_v, qRcv_0, qRcv_s, eq_self, true_and, and_true, true_or, or_true, false_and, and_false, false_or, or_false, ite_true, if_true, if_false, Bool.true_or, Bool.false_or, Bool.or_false, beq_self_eq_true, Bool.false_eq_true, bX11_fitsAt_0, bX11_fitsAt_21, bX11_fitsAt_22, bX11_fitsAt_36, bX11_fitsAt_57, bX11_fitsAt_71, bX11_fitsAt_76, kX11_fitsAt_0, kX11_fitsAt_21, kX11_fitsAt_22, kX11_fitsAt_36, kX11_fitsAt_57, kX11_fitsAt_71, kX11_fitsAt_76, qK_0, qR_0_0, qK_1, qR_0_1, qK_13, qR_0_2, qK_25, qR_0_3, qK_40, qR_0_4, qK_41, qR_0_5, qK_45, qR_0_6, qK_46, qR_0_7, qK_50, qR_0_8, qK_53, qR_0_9, qK_66, qR_0_10, qK_74, qR_0_11, qK_80, qR_0_12, qK_82, qR_0_14, qK_83, qR_0_15, qK_84]
    refine qBI.of (X_fittingPrides hA hW hb ht hn hm hm2 hv2) (by decide) (fun r σ1 g1 => ?_)
    obtain ⟨rfl, -, hA1, c1⟩ := g1
    have hb31 := zps_lt (zfit (aC A) (aT A) b' t' n')
    rw [nI_ne0' hb31, zps_0]
    generalize hFF : zfit (aC A) (aT A) b' t' n' = F
    refine ⟨fun h => ?_, fun h => ?_⟩
    · rw [if_neg h]
      obtain ⟨i, i1, i2⟩ := zcount_pos 30 h
      have hex : ∃ p, 1 ≤ p ∧ p ≤ 30 ∧ F p = true := ⟨i + 1, by omega, by omega, i2⟩
      rw [nI_ne0' (by omega)]
      refine ⟨fun h0 => ?_, fun h0 => ?_⟩
      · rw [if_neg h0]
        refine qBI.fn (x_greatest σ1 hex) (by decide) ?_
        refine qV.go 30 [9999] ok_194 ?_
        simp only [qW_nop, qW_iconst, qW_bipush, qW_lconst, qW_iloadn, qW_iload, qW_aloadn, qW_istore, qW_i2l, qW_ifeq, qW_ifne, qW_goto, qW_cs1_0, qW_cs3_0, qW_cv2_0, qW_cv4_0, qW_iret0, Nat.reduceAdd, Nat.reduceMul, Nat.reduceBEq, Nat.reduceEqDiff, Nat.reduceLT, Nat.reduceLeDiff, Nat.zero_le, nI_add, nI_mul, nI_cl, qin_eq, qofI, qlg_0, qlg_s, qls_i0, qls_r0, qls_l0, qls_1, qls_2, qkl_i, qkl_r, qkl_l, qkl_n, qIsI_i, qIsL_l, qIsR_r, qint_i, qil_i, qil_r, qil_l, qf4_0, qf4_1, qf4_2, qf4_3, qf2_0, qf2_1, qcs_n, qcs_i, qcs_r, qcs_l, qst_n, qst_c, qJ_0, qJ_st, qJ_go, qfl_I, qfl_Z, qfl_L, qfl_R, qrI_i, qrL_l, qrV_v, qRcv_0, qRcv_s, eq_self, true_and, and_true, true_or, or_true, false_and, and_false, false_or, or_false, ite_true, if_true, if_false, Bool.true_or, Bool.false_or, Bool.or_false, beq_self_eq_true, Bool.false_eq_true, bX11_fitsAt_0, bX11_fitsAt_21, bX11_fitsAt_22, bX11_fitsAt_36, bX11_fitsAt_57, bX11_fitsAt_71, bX11_fitsAt_76, kX11_fitsAt_0, kX11_fitsAt_21, kX11_fitsAt_22, kX11_fitsAt_36, kX11_fitsAt_57, kX11_fitsAt_71, kX11_fitsAt_76, qK_0, qR_0_0, qK_1, qR_0_1, qK_13, qR_0_2, qK_25, qR_0_3, qK_40, qR_0_4, qK_41, qR_0_5, qK_45, qR_0_6, qK_46, qR_0_7, qK_50, qR_0_8, qK_53, qR_0_9, qK_66, qR_0_10, qK_74, qR_0_11, qK_80, qR_0_12, qK_82, qR_0_14, qK_83, qR_0_15, qK_84]
        exact g_ok hA1 hW c1 (by decide) rfl
      · rw [if_pos h0]
        refine qBI.fn (x_least σ1 hex) (by decide) ?_
        refine qV.go 30 [9999] ok_194 ?_
        simp only [qW_nop, qW_iconst, qW_bipush, qW_lconst, qW_iloadn, qW_iload, qW_aloadn, qW_istore, qW_i2l, qW_ifeq, qW_ifne, qW_goto, qW_cs1_0, qW_cs3_0, qW_cv2_0, qW_cv4_0, qW_iret0, Nat.reduceAdd, Nat.reduceMul, Nat.reduceBEq, Nat.reduceEqDiff, Nat.reduceLT, Nat.reduceLeDiff, Nat.zero_le, nI_add, nI_mul, nI_cl, qin_eq, qofI, qlg_0, qlg_s, qls_i0, qls_r0, qls_l0, qls_1, qls_2, qkl_i, qkl_r, qkl_l, qkl_n, qIsI_i, qIsL_l, qIsR_r, qint_i, qil_i, qil_r, qil_l, qf4_0, qf4_1, qf4_2, qf4_3, qf2_0, qf2_1, qcs_n, qcs_i, qcs_r, qcs_l, qst_n, qst_c, qJ_0, qJ_st, qJ_go, qfl_I, qfl_Z, qfl_L, qfl_R, qrI_i, qrL_l, qrV_v, qRcv_0, qRcv_s, eq_self, true_and, and_true, true_or, or_true, false_and, and_false, false_or, or_false, ite_true, if_true, if_false, Bool.true_or, Bool.false_or, Bool.or_false, beq_self_eq_true, Bool.false_eq_true, bX11_fitsAt_0, bX11_fitsAt_21, bX11_fitsAt_22, bX11_fitsAt_36, bX11_fitsAt_57, bX11_fitsAt_71, bX11_fitsAt_76, kX11_fitsAt_0, kX11_fitsAt_21, kX11_fitsAt_22, kX11_fitsAt_36, kX11_fitsAt_57, kX11_fitsAt_71, kX11_fitsAt_76, qK_0, qR_0_0, qK_1, qR_0_1, qK_13, qR_0_2, qK_25, qR_0_3, qK_40, qR_0_4, qK_41, qR_0_5, qK_45, qR_0_6, qK_46, qR_0_7, qK_50, qR_0_8, qK_53, qR_0_9, qK_66, qR_0_10, qK_74, qR_0_11, qK_80, qR_0_12, qK_82, qR_0_14, qK_83, qR_0_15, qK_84]
        exact g_ok hA1 hW c1 (by decide) rfl
    · rw [if_pos h]
      exact g_no hA1 hW c1 (by decide) rfl
  · exact no _ hl g0 (by unfold yFitsAt; rw [if_neg (by rw [hz]; decide), if_pos g0])
theorem zupb_300 (C : zC) (o : Nat) : zupb C o ≤ 300 := by
  have := zlst_le (fun n => zUp (zit n C) o) 300 0
  have e : zupb C o = zlst (fun n => zUp (zit n C) o) 300 0 := rfl
  omega
set_option maxRecDepth 20000 in
theorem X_ask {σ : qSg} {A : zA} (hA : zXA σ A) (hW : zAW A) (b t n : Int32) : qCI 7 195 [qr 0, qi b, qi t, qi n] σ (zXCall σ (yAsk A b t n)) := by
  have hl := zwrong_lt (aC A) (aT A) b t n
  refine qCI.of [some (qr 0), some (qi b), some (qi t), some (qi n), none, none] ok_195 (Nat.le_of_ble_eq_true rfl) rfl ?_
  refine qV.go 30 [9999] ok_195 ?_
  simp only [qW_nop, qW_iconst, qW_bipush, qW_iloadn, qW_iload, qW_aloadn, qW_istore, qW_ifeq, qW_icge, qW_getf, qW_cs1_0, qW_cv2_0, qW_cv3_0, qW_cv4_0, qW_iret0, Nat.reduceAdd, Nat.reduceMul, Nat.reduceBEq, Nat.reduceEqDiff, Nat.reduceLT, Nat.reduceLeDiff, Nat.zero_le, nI_add, nI_mul, nI_cl, qin_eq, qofI, qlg_0, qlg_s, qls_i0, qls_r0, qls_l0, qls_1, qls_2, qkl_i, qkl_r, qkl_l, qkl_n, qIsI_i, qIsL_l, qIsR_r, qint_i, qil_i, qil_r, qil_l, qf4_0, qf4_1, qf4_2, qf4_3, qf2_0, qf2_1, qcs_n, qcs_i, qcs_r, qcs_l, qst_n, qst_c, qJ_0, qJ_st, qJ_go, qfl_I, qfl_Z, qfl_L, qfl_R, qrI_i, qrL_l, qrV_v, qRcv_0, qRcv_s, eq_self, true_and, and_true, true_or, or_true, false_and, and_false, false_or, or_false, ite_true, if_true, if_false, Bool.true_or, Bool.false_or, Bool.or_false, beq_self_eq_true, Bool.false_eq_true, bX11_ask_0, bX11_ask_21, bX11_ask_46, kX11_ask_0, kX11_ask_21, kX11_ask_46, qK_0, qR_0_0, qK_1, qR_0_1, qK_13, qR_0_2, qK_25, qR_0_3, qK_40, qR_0_4, qK_41, qR_0_5, qK_45, qR_0_6, qK_46, qR_0_7, qK_50, qR_0_8, qK_53, qR_0_9, qK_66, qR_0_10, qK_74, qR_0_11, qK_80, qR_0_12, qK_82, qR_0_14, qK_83, qR_0_15, qK_84, qK_41, qR_41_0, qK_13, qR_41_1, qK_25, qR_41_2, qK_42, qR_41_3, qK_43, qR_41_5, qK_44, qK_1, qR_1_6, qK_2, qR_1_7, qK_3, qR_1_8, qK_4, qR_1_9, qK_5, qR_1_10, qK_6, qR_1_11, qK_7, qR_1_12, qK_8, qR_1_13, qK_9, qR_1_14, qK_10, qR_1_15, qK_11, qR_1_16, qK_12]
  refine qBI.fn (X_clueStatus hA hW b t n) (by decide) ?_
  rw [nI_ne0' (by omega)]
  refine And.symm ⟨fun g => ?_, fun g => ?_⟩
  · exact g_no hA hW zCls.rf (by decide) (by unfold yAsk; rw [if_pos g]; rfl)
  · have g0 : zwrong (aC A) (aT A) b t n = 0 := by omega
    have eY : yAsk A b t n = if zcount (fun i => zfitA A b t n (i + 1)) 30 < 2 then yNo A 6 else yOk A (nI (zleast (zalike A b t n) (aC A 0 0))) := by unfold yAsk; rw [if_neg (by omega)]
    rw [eY]
    unfold zalike zfitA
    clear eY hl
    obtain ⟨b', t', n', m, hb, rfl, ht, rfl, hn, rfl, hm, hm2, hv⟩ := zwrong_ok g0
    have wb := hW.w.1
    rw [nI_tn (by omega), nI_tn (by omega), nI_tn (by omega)]
    refine qBI.of (X_fittingPrides hA hW hb ht hn hm hm2 hv) (by decide) (fun r σ1 g1 => ?_)
    obtain ⟨rfl, u1, hA1, c1⟩ := g1
    refine qBI.fn (x_bits σ1 (zps_lt _)) (by decide) ?_
    rw [zps_pop]
    have e4 : σ1.1 1 4 = nI (aC A 0 0) := hA1.x.1.b
    rw [e4]
    generalize hFF : zfit (aC A) (aT A) b' t' n' = F
    have hc := zcount_le (fun i => F (i + 1)) 30
    simp (disch := omega) only [nI_leI, nI_ltI, nI_eq, nI_cl, qin_eq, nI_add, nI_mul, qb_z, qb_t, qb_f, nI_ne0', Nat.reduceAdd, Bool.false_eq_true, if_false, if_true, true_and, and_true, Nat.reduceEqDiff, not_true_eq_false, not_false_eq_true, false_implies, true_implies, ite_true, ite_false]
    refine And.symm ⟨fun h => ?_, fun h => ?_⟩
    · rw [if_pos (by omega)]
      exact g_no hA1 hW c1 (by decide) rfl
    · rw [if_neg (by omega)]
      refine qBI.fn (x_bestParter (by omega) u1 (fun p o => by have := zupb_300 (zu (aC A) 2 b' p) o; omega)) (by decide) ?_
      exact g_ok hA1 hW c1 (by decide) rfl
