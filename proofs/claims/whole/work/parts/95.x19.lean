/-! the class: clues told, powers, a common divisor -/
set_option maxRecDepth 20000 in
theorem x_forget (σ : qSg) : qCV 1 41 [qr 41] σ (fun σ' => σ' = qwi σ 41 4 (nI 0)) := by
  refine qCV.of [some (qr 41)] ok_41 (Nat.le_of_ble_eq_true rfl) rfl ?_
  refine qV.go 30 [9999] ok_41 ?_
  simp only [qW_nop, qW_iconst, qW_aloadn, qW_vret, qW_putf0, Nat.reduceAdd, Nat.reduceMul, Nat.reduceBEq, Nat.reduceEqDiff, Nat.reduceLT, Nat.reduceLeDiff, Nat.zero_le, nI_add, nI_mul, nI_cl, qin_eq, qofI, qlg_0, qlg_s, qls_i0, qls_r0, qls_l0, qls_1, qls_2, qkl_i, qkl_r, qkl_l, qkl_n, qIsI_i, qIsL_l, qIsR_r, qint_i, qil_i, qil_r, qil_l, qf4_0, qf4_1, qf4_2, qf4_3, qf2_0, qf2_1, qcs_n, qcs_i, qcs_r, qcs_l, qst_n, qst_c, qJ_0, qJ_st, qJ_go, qfl_I, qfl_Z, qfl_L, qfl_R, qrI_i, qrL_l, qrV_v, qRcv_0, qRcv_s, eq_self, true_and, and_true, true_or, or_true, false_and, and_false, false_or, or_false, ite_true, if_true, if_false, Bool.true_or, Bool.false_or, Bool.or_false, beq_self_eq_true, Bool.false_eq_true, bX3_forget_0, kX3_forget_0, qK_41, qR_41_0, qK_13, qR_41_1, qK_25, qR_41_2, qK_42, qR_41_3, qK_43, qR_41_5, qK_44]
set_option maxRecDepth 20000 in
theorem x_addClue {σ : qSg} {n : Nat} (h : σ.1 41 4 = nI n) (hn : n < 20) (x y : Int32) : qCV 1 42 [qr 41, qi x, qi y] σ (fun σ' => σ' = qwi (qwi (qwi σ 42 n x) 43 n y) 41 4 (nI (n + 1))) := by
  refine qCV.of [some (qr 41), some (qi x), some (qi y)] ok_42 (Nat.le_of_ble_eq_true rfl) rfl ?_
  refine qV.go 30 [46] ok_42 ?_
  simp only [qW_nop, qW_iconst, qW_bipush, qW_iloadn, qW_aloadn, qW_iadd, qW_dup, qW_iflt, qW_icge, qW_getf, qW_iast, qW_vret, qW_putf0, Nat.reduceAdd, Nat.reduceMul, Nat.reduceBEq, Nat.reduceEqDiff, Nat.reduceLT, Nat.reduceLeDiff, Nat.zero_le, nI_add, nI_mul, nI_cl, qin_eq, qofI, qlg_0, qlg_s, qls_i0, qls_r0, qls_l0, qls_1, qls_2, qkl_i, qkl_r, qkl_l, qkl_n, qIsI_i, qIsL_l, qIsR_r, qint_i, qil_i, qil_r, qil_l, qf4_0, qf4_1, qf4_2, qf4_3, qf2_0, qf2_1, qcs_n, qcs_i, qcs_r, qcs_l, qst_n, qst_c, qJ_0, qJ_st, qJ_go, qfl_I, qfl_Z, qfl_L, qfl_R, qrI_i, qrL_l, qrV_v, qRcv_0, qRcv_s, eq_self, true_and, and_true, true_or, or_true, false_and, and_false, false_or, or_false, ite_true, if_true, if_false, Bool.true_or, Bool.false_or, Bool.or_false, beq_self_eq_true, Bool.false_eq_true, bX3_add_0, bX3_add_46, kX3_add_0, kX3_add_46, qK_41, qR_41_0, qK_13, qR_41_1, qK_25, qR_41_2, qK_42, qR_41_3, qK_43, qR_41_5, qK_44]
  have e1 : ∀ v, (qwi σ 42 n v).1 41 4 = nI n := fun v => by rw [qwi_1, if_neg (by omega)]; exact h
  have e2 : ∀ v w, (qwi (qwi σ 42 n v) 43 n w).1 41 4 = nI n := fun v w => by rw [qwi_1, if_neg (by omega)]; exact e1 v
  rw [h]
  simp (disch := omega) only [nI_leI, nI_ltI, nI_eq, nI_cl, qin_eq, nI_add, nI_mul, qb_z, qb_t, qb_f, nI_ne0', Nat.reduceAdd, Bool.false_eq_true, if_false, if_true, true_and, and_true, Nat.reduceEqDiff, not_true_eq_false, not_false_eq_true, false_implies, true_implies, ite_true, ite_false]
  simp only [z0i, qlt, qle, nI_t (show n < 2147483648 by omega)]
  refine ⟨fun hh => by omega, fun _ => ⟨fun hh => by omega, fun _ => ?_⟩⟩
  have cl := nI_cl (n := n) (by omega)
  simp only [e1, e2, cl, nI_add]
  refine ⟨qin_n (by omega) (by decide), ?_⟩
  refine qV.go 30 [9999] ok_42 ?_
  simp only [qW_nop, qW_iconst, qW_bipush, qW_iloadn, qW_aloadn, qW_iadd, qW_dup, qW_iflt, qW_icge, qW_getf, qW_iast, qW_vret, qW_putf0, Nat.reduceAdd, Nat.reduceMul, Nat.reduceBEq, Nat.reduceEqDiff, Nat.reduceLT, Nat.reduceLeDiff, Nat.zero_le, nI_add, nI_mul, nI_cl, qin_eq, qofI, qlg_0, qlg_s, qls_i0, qls_r0, qls_l0, qls_1, qls_2, qkl_i, qkl_r, qkl_l, qkl_n, qIsI_i, qIsL_l, qIsR_r, qint_i, qil_i, qil_r, qil_l, qf4_0, qf4_1, qf4_2, qf4_3, qf2_0, qf2_1, qcs_n, qcs_i, qcs_r, qcs_l, qst_n, qst_c, qJ_0, qJ_st, qJ_go, qfl_I, qfl_Z, qfl_L, qfl_R, qrI_i, qrL_l, qrV_v, qRcv_0, qRcv_s, eq_self, true_and, and_true, true_or, or_true, false_and, and_false, false_or, or_false, ite_true, if_true, if_false, Bool.true_or, Bool.false_or, Bool.or_false, beq_self_eq_true, Bool.false_eq_true, bX3_add_0, bX3_add_46, kX3_add_0, kX3_add_46, qK_41, qR_41_0, qK_13, qR_41_1, qK_25, qR_41_2, qK_42, qR_41_3, qK_43, qR_41_5, qK_44]
set_option maxRecDepth 20000 in
theorem x_power (σ : qSg) (b : Nat) {t : Nat} (ht : t < 1000) : qCL 1 60 [ql (lN b), qi (nI t)] σ (fun v σ' => v = lN (b ^ t) ∧ σ' = σ) := by
  refine qCL.of [some (ql (lN b)), none, some (qi (nI t)), none, none, none] ok_60 (Nat.le_of_ble_eq_true rfl) rfl ?_
  refine qV.go 30 [5] ok_60 ?_
  simp only [qW_nop, qW_iconst, qW_lconst, qW_iloadn, qW_iload, qW_lloadn, qW_istore, qW_lstoren, qW_iinc, qW_lmul, qW_icge, qW_goto, qW_lret, Nat.reduceAdd, Nat.reduceMul, Nat.reduceBEq, Nat.reduceEqDiff, Nat.reduceLT, Nat.reduceLeDiff, Nat.zero_le, nI_add, nI_mul, nI_cl, qin_eq, qofI, qlg_0, qlg_s, qls_i0, qls_r0, qls_l0, qls_1, qls_2, qkl_i, qkl_r, qkl_l, qkl_n, qIsI_i, qIsL_l, qIsR_r, qint_i, qil_i, qil_r, qil_l, qf4_0, qf4_1, qf4_2, qf4_3, qf2_0, qf2_1, qcs_n, qcs_i, qcs_r, qcs_l, qst_n, qst_c, qJ_0, qJ_st, qJ_go, qfl_I, qfl_Z, qfl_L, qfl_R, qrI_i, qrL_l, qrV_v, qRcv_0, qRcv_s, eq_self, true_and, and_true, true_or, or_true, false_and, and_false, false_or, or_false, ite_true, if_true, if_false, Bool.true_or, Bool.false_or, Bool.or_false, beq_self_eq_true, Bool.false_eq_true, bX4_power_0, bX4_power_5, bX4_power_21, kX4_power_0, kX4_power_5, kX4_power_21]
  refine qdown (n := t) (P := fun i => qV 60 1 (.inr (.inl fun v σ' => v = lN (b ^ t) ∧ σ' = σ)) 5 [some (ql (lN b)), none, some (qi (nI t)), some (ql (lN (b ^ i))), none, some (qi (nI i))] [] σ) (fun i hi ih => ?_) 0 (Nat.zero_le _)
  refine qV.go 30 [5] ok_60 ?_
  simp only [qW_nop, qW_iconst, qW_lconst, qW_iloadn, qW_iload, qW_lloadn, qW_istore, qW_lstoren, qW_iinc, qW_lmul, qW_icge, qW_goto, qW_lret, Nat.reduceAdd, Nat.reduceMul, Nat.reduceBEq, Nat.reduceEqDiff, Nat.reduceLT, Nat.reduceLeDiff, Nat.zero_le, nI_add, nI_mul, nI_cl, qin_eq, qofI, qlg_0, qlg_s, qls_i0, qls_r0, qls_l0, qls_1, qls_2, qkl_i, qkl_r, qkl_l, qkl_n, qIsI_i, qIsL_l, qIsR_r, qint_i, qil_i, qil_r, qil_l, qf4_0, qf4_1, qf4_2, qf4_3, qf2_0, qf2_1, qcs_n, qcs_i, qcs_r, qcs_l, qst_n, qst_c, qJ_0, qJ_st, qJ_go, qfl_I, qfl_Z, qfl_L, qfl_R, qrI_i, qrL_l, qrV_v, qRcv_0, qRcv_s, eq_self, true_and, and_true, true_or, or_true, false_and, and_false, false_or, or_false, ite_true, if_true, if_false, Bool.true_or, Bool.false_or, Bool.or_false, beq_self_eq_true, Bool.false_eq_true, bX4_power_0, bX4_power_5, bX4_power_21, kX4_power_0, kX4_power_5, kX4_power_21]
  simp (disch := omega) only [nI_leI, nI_ltI, nI_eq, nI_cl, qin_eq, nI_add, nI_mul, qb_z, qb_t, qb_f, nI_ne0', Nat.reduceAdd, Bool.false_eq_true, if_false, if_true, true_and, and_true, Nat.reduceEqDiff, not_true_eq_false, not_false_eq_true, false_implies, true_implies, ite_true, ite_false]
  refine ⟨fun g => ?_, fun g => ?_⟩
  · have : i = t := by omega
    subst this
    rfl
  · have := ih (by omega)
    rw [Nat.pow_succ, ← lN_mul] at this
    exact this
