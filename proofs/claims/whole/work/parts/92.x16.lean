/-! the class: whom to ask, which prides fit -/
def zUb (σ : qSg) (m : Nat) (U : Nat → Nat → Nat) : Prop := ∀ p, 1 ≤ p → p ≤ 30 → ∀ j, j < m → σ.1 44 (8 * p + j) = nI (U p j)
theorem zps_bit (F : Nat → Bool) {q : Nat} (h1 : 1 ≤ q) (h2 : q ≤ 30) : (bm 31 (zps F)).testBit q = F q := by
  rw [bm_bit, decide_eq_true (by omega)]
  unfold zps
  rw [decide_eq_true h1]
  rfl
set_option maxRecDepth 20000 in
theorem x_alike {σ : qSg} {F : Nat → Bool} {U : Nat → Nat → Nat} {b m p : Nat} (hm : m ≤ 8) (hb : b < m) (hp1 : 1 ≤ p) (hp : p ≤ 30) (hF : F p = true) (hU : zUb σ m U) (hU2 : ∀ p, U p b ≤ 1000) : qFI 1 47 [qr 41, qi (nI b), qi (nI (bm 31 (zps F))), qi (nI p)] σ (nI (zcnt F (fun p => U p b) p)) := by
  have hl : bm 31 (zps F) < 2147483648 := bm_lt _ _
  refine qCI.of [some (qr 41), some (qi (nI b)), some (qi (nI (bm 31 (zps F)))), some (qi (nI p)), none, none, none] ok_47 (Nat.le_of_ble_eq_true rfl) rfl ?_
  refine qV.go 30 [24, 30] ok_47 ?_
  simp only [qW_nop, qW_iconst, qW_bipush, qW_iloadn, qW_iload, qW_aloadn, qW_istore, qW_iinc, qW_iadd, qW_imul, qW_iand, qW_ishl, qW_ifeq, qW_icne, qW_iflt, qW_iclt, qW_icge, qW_icgt, qW_icle, qW_goto, qW_getf, qW_iald, qW_iret0, Nat.reduceAdd, Nat.reduceMul, Nat.reduceBEq, Nat.reduceEqDiff, Nat.reduceLT, Nat.reduceLeDiff, Nat.zero_le, nI_add, nI_mul, nI_cl, qin_eq, qofI, qlg_0, qlg_s, qls_i0, qls_r0, qls_l0, qls_1, qls_2, qkl_i, qkl_r, qkl_l, qkl_n, qIsI_i, qIsL_l, qIsR_r, qint_i, qil_i, qil_r, qil_l, qf4_0, qf4_1, qf4_2, qf4_3, qf2_0, qf2_1, qcs_n, qcs_i, qcs_r, qcs_l, qst_n, qst_c, qJ_0, qJ_st, qJ_go, qfl_I, qfl_Z, qfl_L, qfl_R, qrI_i, qrL_l, qrV_v, qRcv_0, qRcv_s, eq_self, true_and, and_true, true_or, or_true, false_and, and_false, false_or, or_false, ite_true, if_true, if_false, Bool.true_or, Bool.false_or, Bool.or_false, beq_self_eq_true, Bool.false_eq_true, bX3_alike_0, bX3_alike_24, bX3_alike_27, bX3_alike_30, bX3_alike_67, bX3_alike_68, bX3_alike_87, bX3_alike_93, kX3_alike_0, kX3_alike_24, kX3_alike_27, kX3_alike_30, kX3_alike_67, kX3_alike_68, kX3_alike_87, kX3_alike_93, qK_41, qR_41_0, qK_13, qR_41_1, qK_25, qR_41_2, qK_42, qR_41_3, qK_43, qR_41_5, qK_44]
  simp only [z0i, qlt, qle, nI_t (show b < 2147483648 by omega), nI_t (show p < 2147483648 by omega), nI_t (show 8 < 2147483648 by decide), nI_t (show 1 < 2147483648 by decide), nI_t (show 30 < 2147483648 by decide)]
  refine ⟨fun hh => by omega, fun _ => ⟨fun hh => by omega, fun _ => ⟨fun hh => by omega, fun _ => ⟨fun _ => ?_, fun hh => by omega⟩⟩⟩⟩
  refine qdown (n := 30) (P := fun c => ∀ l6 : Option qPV, qV 47 1 (.inl fun v σ' => v = nI (zcnt F (fun p => U p b) p) ∧ σ' = σ) 30 [some (qr 41), some (qi (nI b)), some (qi (nI (bm 31 (zps F)))), some (qi (nI p)), some (qi (nI (zcount (fun i => F p && F (i + 1) && decide (U p b = U (i + 1) b)) c))), some (qi (nI (c + 1))), l6] [] σ) (fun c hc ih => ?_) 0 (Nat.zero_le _) none
  intro l6
  have hcl := zcount_le (fun i => F p && F (i + 1) && decide (U p b = U (i + 1) b)) c
  have e : zcount (fun i => F p && F (i + 1) && decide (U p b = U (i + 1) b)) (c + 1) = zcount (fun i => F p && F (i + 1) && decide (U p b = U (i + 1) b)) c + (if (F p && F (c + 1) && decide (U p b = U (c + 1) b)) = true then 1 else 0) := rfl
  refine qV.go 30 [30, 67, 87] ok_47 ?_
  simp only [qW_nop, qW_iconst, qW_bipush, qW_iloadn, qW_iload, qW_aloadn, qW_istore, qW_iinc, qW_iadd, qW_imul, qW_iand, qW_ishl, qW_ifeq, qW_icne, qW_iflt, qW_iclt, qW_icge, qW_icgt, qW_icle, qW_goto, qW_getf, qW_iald, qW_iret0, Nat.reduceAdd, Nat.reduceMul, Nat.reduceBEq, Nat.reduceEqDiff, Nat.reduceLT, Nat.reduceLeDiff, Nat.zero_le, nI_add, nI_mul, nI_cl, qin_eq, qofI, qlg_0, qlg_s, qls_i0, qls_r0, qls_l0, qls_1, qls_2, qkl_i, qkl_r, qkl_l, qkl_n, qIsI_i, qIsL_l, qIsR_r, qint_i, qil_i, qil_r, qil_l, qf4_0, qf4_1, qf4_2, qf4_3, qf2_0, qf2_1, qcs_n, qcs_i, qcs_r, qcs_l, qst_n, qst_c, qJ_0, qJ_st, qJ_go, qfl_I, qfl_Z, qfl_L, qfl_R, qrI_i, qrL_l, qrV_v, qRcv_0, qRcv_s, eq_self, true_and, and_true, true_or, or_true, false_and, and_false, false_or, or_false, ite_true, if_true, if_false, Bool.true_or, Bool.false_or, Bool.or_false, beq_self_eq_true, Bool.false_eq_true, bX3_alike_0, bX3_alike_24, bX3_alike_27, bX3_alike_30, bX3_alike_67, bX3_alike_68, bX3_alike_87, bX3_alike_93, kX3_alike_0, kX3_alike_24, kX3_alike_27, kX3_alike_30, kX3_alike_67, kX3_alike_68, kX3_alike_87, kX3_alike_93, qK_41, qR_41_0, qK_13, qR_41_1, qK_25, qR_41_2, qK_42, qR_41_3, qK_43, qR_41_5, qK_44]
  simp (disch := omega) only [nI_leI, nI_ltI, nI_eq, nI_cl, qin_eq, nI_add, nI_mul, qb_z, qb_t, qb_f, nI_ne0', Nat.reduceAdd, Bool.false_eq_true, if_false, if_true, true_and, and_true, Nat.reduceEqDiff, not_true_eq_false, not_false_eq_true, false_implies, true_implies, ite_true, ite_false]
  refine ⟨fun g => ?_, fun g => ?_⟩
  · have : c = 30 := by omega
    subst this
    rfl
  · have nx : ∀ v l6, v = nI (zcount (fun i => F p && F (i + 1) && decide (U p b = U (i + 1) b)) (c + 1)) → qV 47 1 (.inl fun v σ' => v = nI (zcnt F (fun p => U p b) p) ∧ σ' = σ) 87 [some (qr 41), some (qi (nI b)), some (qi (nI (bm 31 (zps F)))), some (qi (nI p)), some (qi v), some (qi (nI (c + 1))), l6] [] σ := by
      intro v l6 hv
      subst hv
      refine qV.go 30 [30] ok_47 ?_
      simp only [qW_nop, qW_iconst, qW_bipush, qW_iloadn, qW_iload, qW_aloadn, qW_istore, qW_iinc, qW_iadd, qW_imul, qW_iand, qW_ishl, qW_ifeq, qW_icne, qW_iflt, qW_iclt, qW_icge, qW_icgt, qW_icle, qW_goto, qW_getf, qW_iald, qW_iret0, Nat.reduceAdd, Nat.reduceMul, Nat.reduceBEq, Nat.reduceEqDiff, Nat.reduceLT, Nat.reduceLeDiff, Nat.zero_le, nI_add, nI_mul, nI_cl, qin_eq, qofI, qlg_0, qlg_s, qls_i0, qls_r0, qls_l0, qls_1, qls_2, qkl_i, qkl_r, qkl_l, qkl_n, qIsI_i, qIsL_l, qIsR_r, qint_i, qil_i, qil_r, qil_l, qf4_0, qf4_1, qf4_2, qf4_3, qf2_0, qf2_1, qcs_n, qcs_i, qcs_r, qcs_l, qst_n, qst_c, qJ_0, qJ_st, qJ_go, qfl_I, qfl_Z, qfl_L, qfl_R, qrI_i, qrL_l, qrV_v, qRcv_0, qRcv_s, eq_self, true_and, and_true, true_or, or_true, false_and, and_false, false_or, or_false, ite_true, if_true, if_false, Bool.true_or, Bool.false_or, Bool.or_false, beq_self_eq_true, Bool.false_eq_true, bX3_alike_0, bX3_alike_24, bX3_alike_27, bX3_alike_30, bX3_alike_67, bX3_alike_68, bX3_alike_87, bX3_alike_93, kX3_alike_0, kX3_alike_24, kX3_alike_27, kX3_alike_30, kX3_alike_67, kX3_alike_68, kX3_alike_87, kX3_alike_93, qK_41, qR_41_0, qK_13, qR_41_1, qK_25, qR_41_2, qK_42, qR_41_3, qK_43, qR_41_5, qK_44]
      exact ih (by omega) l6
    rw [e] at nx
    have u1 := hU2 p
    have u2 := hU2 (c + 1)
    have g1 : σ.1 44 ((c + 1) * 8 + b) = nI (U (c + 1) b) := by rw [Nat.mul_comm]; exact hU (c + 1) (by omega) (by omega) b hb
    have g2 : σ.1 44 (p * 8 + b) = nI (U p b) := by rw [Nat.mul_comm]; exact hU p hp1 hp b hb
    simp (disch := omega) only [nI_leI, nI_ltI, nI_eq, nI_cl, qin_eq, nI_add, nI_mul, qb_z, qb_t, qb_f, nI_ne0', Nat.reduceAdd, Bool.false_eq_true, if_false, if_true, true_and, and_true, Nat.reduceEqDiff, not_true_eq_false, not_false_eq_true, false_implies, true_implies, ite_true, ite_false]
    rw [g1, g2]
    simp (disch := omega) only [nI_leI, nI_ltI, nI_eq, nI_cl, qin_eq, nI_add, nI_mul, qb_z, qb_t, qb_f, nI_ne0', Nat.reduceAdd, Bool.false_eq_true, if_false, if_true, true_and, and_true, Nat.reduceEqDiff, not_true_eq_false, not_false_eq_true, false_implies, true_implies, ite_true, ite_false]
    refine ⟨fun h1 => ?_, fun h1 => ?_⟩
    · refine qV.go 30 [87] ok_47 ?_
      simp only [qW_nop, qW_iconst, qW_bipush, qW_iloadn, qW_iload, qW_aloadn, qW_istore, qW_iinc, qW_iadd, qW_imul, qW_iand, qW_ishl, qW_ifeq, qW_icne, qW_iflt, qW_iclt, qW_icge, qW_icgt, qW_icle, qW_goto, qW_getf, qW_iald, qW_iret0, Nat.reduceAdd, Nat.reduceMul, Nat.reduceBEq, Nat.reduceEqDiff, Nat.reduceLT, Nat.reduceLeDiff, Nat.zero_le, nI_add, nI_mul, nI_cl, qin_eq, qofI, qlg_0, qlg_s, qls_i0, qls_r0, qls_l0, qls_1, qls_2, qkl_i, qkl_r, qkl_l, qkl_n, qIsI_i, qIsL_l, qIsR_r, qint_i, qil_i, qil_r, qil_l, qf4_0, qf4_1, qf4_2, qf4_3, qf2_0, qf2_1, qcs_n, qcs_i, qcs_r, qcs_l, qst_n, qst_c, qJ_0, qJ_st, qJ_go, qfl_I, qfl_Z, qfl_L, qfl_R, qrI_i, qrL_l, qrV_v, qRcv_0, qRcv_s, eq_self, true_and, and_true, true_or, or_true, false_and, and_false, false_or, or_false, ite_true, if_true, if_false, Bool.true_or, Bool.false_or, Bool.or_false, beq_self_eq_true, Bool.false_eq_true, bX3_alike_0, bX3_alike_24, bX3_alike_27, bX3_alike_30, bX3_alike_67, bX3_alike_68, bX3_alike_87, bX3_alike_93, kX3_alike_0, kX3_alike_24, kX3_alike_27, kX3_alike_30, kX3_alike_67, kX3_alike_68, kX3_alike_87, kX3_alike_93, qK_41, qR_41_0, qK_13, qR_41_1, qK_25, qR_41_2, qK_42, qR_41_3, qK_43, qR_41_5, qK_44]
      refine ⟨fun _ => nx _ _ ?_, fun hh => absurd nI_0 hh⟩
      rw [if_neg (by simp [show ¬ U p b = U (c + 1) b from fun hh => h1 hh.symm]), Nat.add_zero]
    · rw [qshl1 (by omega)]
      simp only [nI_and0 hl, zps_bit F (show 1 ≤ c + 1 by omega) (show c + 1 ≤ 30 by omega)]
      refine ⟨fun h2 => nx _ _ (by rw [if_neg (by simp [h2]), Nat.add_zero]), fun h2 => nx _ _ ?_⟩
      have h2 : F (c + 1) = true := by simpa using h2
      rw [if_pos (by simp [hF, h2, h1])]
set_option maxRecDepth 20000 in
theorem x_mostAlike {σ : qSg} {F : Nat → Bool} {U : Nat → Nat → Nat} {b m : Nat} (hm : m ≤ 8) (hb : b < m) (hU : zUb σ m U) (hU2 : ∀ p, U p b ≤ 1000) : qFI 2 46 [qr 41, qi (nI b), qi (nI (bm 31 (zps F)))] σ (nI (zmx F (fun p => U p b) 30)) := by
  have hl : bm 31 (zps F) < 2147483648 := bm_lt _ _
  refine qCI.of [some (qr 41), some (qi (nI b)), some (qi (nI (bm 31 (zps F)))), none, none] ok_46 (Nat.le_of_ble_eq_true rfl) rfl ?_
  refine qV.go 30 [5] ok_46 ?_
  simp only [qW_nop, qW_iconst, qW_bipush, qW_iloadn, qW_iload, qW_aloadn, qW_istoren, qW_istore, qW_iinc, qW_iand, qW_ishl, qW_ifeq, qW_icgt, qW_goto, qW_cv4_0, qW_mmax, qW_iret0, Nat.reduceAdd, Nat.reduceMul, Nat.reduceBEq, Nat.reduceEqDiff, Nat.reduceLT, Nat.reduceLeDiff, Nat.zero_le, nI_add, nI_mul, nI_cl, qin_eq, qofI, qlg_0, qlg_s, qls_i0, qls_r0, qls_l0, qls_1, qls_2, qkl_i, qkl_r, qkl_l, qkl_n, qIsI_i, qIsL_l, qIsR_r, qint_i, qil_i, qil_r, qil_l, qf4_0, qf4_1, qf4_2, qf4_3, qf2_0, qf2_1, qcs_n, qcs_i, qcs_r, qcs_l, qst_n, qst_c, qJ_0, qJ_st, qJ_go, qfl_I, qfl_Z, qfl_L, qfl_R, qrI_i, qrL_l, qrV_v, qRcv_0, qRcv_s, eq_self, true_and, and_true, true_or, or_true, false_and, and_false, false_or, or_false, ite_true, if_true, if_false, Bool.true_or, Bool.false_or, Bool.or_false, beq_self_eq_true, Bool.false_eq_true, bX3_mostAlike_0, bX3_mostAlike_5, bX3_mostAlike_34, bX3_mostAlike_40, kX3_mostAlike_0, kX3_mostAlike_5, kX3_mostAlike_34, kX3_mostAlike_40, qK_41, qR_41_0, qK_13, qR_41_1, qK_25, qR_41_2, qK_42, qR_41_3, qK_43, qR_41_5, qK_44]
  refine qdown (n := 30) (P := fun c => qV 46 2 (.inl fun v σ' => v = nI (zmx F (fun p => U p b) 30) ∧ σ' = σ) 5 [some (qr 41), some (qi (nI b)), some (qi (nI (bm 31 (zps F)))), some (qi (nI (zmx F (fun p => U p b) c))), some (qi (nI (c + 1)))] [] σ) (fun c hc ih => ?_) 0 (Nat.zero_le _)
  have hx := zmx_le F (fun p => U p b) c
  have hn : zcnt F (fun p => U p b) (c + 1) ≤ 30 := zcount_le _ _
  have e : zmx F (fun p => U p b) (c + 1) = if zmx F (fun p => U p b) c < zcnt F (fun p => U p b) (c + 1) then zcnt F (fun p => U p b) (c + 1) else zmx F (fun p => U p b) c := rfl
  refine qV.go 30 [5, 34] ok_46 ?_
  simp only [qW_nop, qW_iconst, qW_bipush, qW_iloadn, qW_iload, qW_aloadn, qW_istoren, qW_istore, qW_iinc, qW_iand, qW_ishl, qW_ifeq, qW_icgt, qW_goto, qW_cv4_0, qW_mmax, qW_iret0, Nat.reduceAdd, Nat.reduceMul, Nat.reduceBEq, Nat.reduceEqDiff, Nat.reduceLT, Nat.reduceLeDiff, Nat.zero_le, nI_add, nI_mul, nI_cl, qin_eq, qofI, qlg_0, qlg_s, qls_i0, qls_r0, qls_l0, qls_1, qls_2, qkl_i, qkl_r, qkl_l, qkl_n, qIsI_i, qIsL_l, qIsR_r, qint_i, qil_i, qil_r, qil_l, qf4_0, qf4_1, qf4_2, qf4_3, qf2_0, qf2_1, qcs_n, qcs_i, qcs_r, qcs_l, qst_n, qst_c, qJ_0, qJ_st, qJ_go, qfl_I, qfl_Z, qfl_L, qfl_R, qrI_i, qrL_l, qrV_v, qRcv_0, qRcv_s, eq_self, true_and, and_true, true_or, or_true, false_and, and_false, false_or, or_false, ite_true, if_true, if_false, Bool.true_or, Bool.false_or, Bool.or_false, beq_self_eq_true, Bool.false_eq_true, bX3_mostAlike_0, bX3_mostAlike_5, bX3_mostAlike_34, bX3_mostAlike_40, kX3_mostAlike_0, kX3_mostAlike_5, kX3_mostAlike_34, kX3_mostAlike_40, qK_41, qR_41_0, qK_13, qR_41_1, qK_25, qR_41_2, qK_42, qR_41_3, qK_43, qR_41_5, qK_44]
  simp (disch := omega) only [nI_leI, nI_ltI, nI_eq, nI_cl, qin_eq, nI_add, nI_mul, qb_z, qb_t, qb_f, nI_ne0', Nat.reduceAdd, Bool.false_eq_true, if_false, if_true, true_and, and_true, Nat.reduceEqDiff, not_true_eq_false, not_false_eq_true, false_implies, true_implies, ite_true, ite_false]
  refine ⟨fun g => ?_, fun g => ?_⟩
  · have : c = 30 := by omega
    subst this
    rfl
  · have nx : ∀ v, v = nI (zmx F (fun p => U p b) (c + 1)) → qV 46 2 (.inl fun v σ' => v = nI (zmx F (fun p => U p b) 30) ∧ σ' = σ) 34 [some (qr 41), some (qi (nI b)), some (qi (nI (bm 31 (zps F)))), some (qi v), some (qi (nI (c + 1)))] [] σ := by
      intro v hv
      subst hv
      refine qV.go 30 [5] ok_46 ?_
      simp only [qW_nop, qW_iconst, qW_bipush, qW_iloadn, qW_iload, qW_aloadn, qW_istoren, qW_istore, qW_iinc, qW_iand, qW_ishl, qW_ifeq, qW_icgt, qW_goto, qW_cv4_0, qW_mmax, qW_iret0, Nat.reduceAdd, Nat.reduceMul, Nat.reduceBEq, Nat.reduceEqDiff, Nat.reduceLT, Nat.reduceLeDiff, Nat.zero_le, nI_add, nI_mul, nI_cl, qin_eq, qofI, qlg_0, qlg_s, qls_i0, qls_r0, qls_l0, qls_1, qls_2, qkl_i, qkl_r, qkl_l, qkl_n, qIsI_i, qIsL_l, qIsR_r, qint_i, qil_i, qil_r, qil_l, qf4_0, qf4_1, qf4_2, qf4_3, qf2_0, qf2_1, qcs_n, qcs_i, qcs_r, qcs_l, qst_n, qst_c, qJ_0, qJ_st, qJ_go, qfl_I, qfl_Z, qfl_L, qfl_R, qrI_i, qrL_l, qrV_v, qRcv_0, qRcv_s, eq_self, true_and, and_true, true_or, or_true, false_and, and_false, false_or, or_false, ite_true, if_true, if_false, Bool.true_or, Bool.false_or, Bool.or_false, beq_self_eq_true, Bool.false_eq_true, bX3_mostAlike_0, bX3_mostAlike_5, bX3_mostAlike_34, bX3_mostAlike_40, kX3_mostAlike_0, kX3_mostAlike_5, kX3_mostAlike_34, kX3_mostAlike_40, qK_41, qR_41_0, qK_13, qR_41_1, qK_25, qR_41_2, qK_42, qR_41_3, qK_43, qR_41_5, qK_44]
      exact ih (by omega)
    rw [e] at nx
    rw [qshl1 (by omega)]
    simp only [nI_and0 hl, zps_bit F (show 1 ≤ c + 1 by omega) (show c + 1 ≤ 30 by omega)]
    refine ⟨fun h2 => nx _ ?_, fun h2 => ?_⟩
    · have : zcnt F (fun p => U p b) (c + 1) = 0 := by
        unfold zcnt
        rw [zcount_cg (p' := fun _ => false) 30 (fun i _ => by simp [h2]), zcount_false]
      rw [this, if_neg (Nat.not_lt_zero _)]
    · have h2 : F (c + 1) = true := by simpa using h2
      refine qBI.fn (x_alike hm hb (p := c + 1) (by omega) (by omega) h2 hU hU2) (by decide) ?_
      refine nx _ ?_
      rw [iI_nat, iI_nat, qmax_i (by omega) (by omega) (by omega) (by omega), iI_nat]
      congr 1
      split <;> omega
set_option maxRecDepth 20000 in
theorem x_bestParter {σ : qSg} {F : Nat → Bool} {U : Nat → Nat → Nat} {m : Nat} (hm : m ≤ 8) (hU : zUb σ m U) (hU2 : ∀ p b, U p b ≤ 1000) : qFI 3 45 [qr 41, qi (nI m), qi (nI (bm 31 (zps F)))] σ (nI (zleast (fun b => zmx F (fun p => U p b) 30) m)) := by
  refine qCI.of [some (qr 41), some (qi (nI m)), some (qi (nI (bm 31 (zps F)))), none, none, none, none] ok_45 (Nat.le_of_ble_eq_true rfl) rfl ?_
  refine qV.go 30 [9] ok_45 ?_
  simp only [qW_nop, qW_iconst, qW_ldc, qW_iloadn, qW_iload, qW_aloadn, qW_istoren, qW_istore, qW_iinc, qW_icge, qW_goto, qW_cv3_0, qW_iret0, Nat.reduceAdd, Nat.reduceMul, Nat.reduceBEq, Nat.reduceEqDiff, Nat.reduceLT, Nat.reduceLeDiff, Nat.zero_le, nI_add, nI_mul, nI_cl, qin_eq, qofI, qlg_0, qlg_s, qls_i0, qls_r0, qls_l0, qls_1, qls_2, qkl_i, qkl_r, qkl_l, qkl_n, qIsI_i, qIsL_l, qIsR_r, qint_i, qil_i, qil_r, qil_l, qf4_0, qf4_1, qf4_2, qf4_3, qf2_0, qf2_1, qcs_n, qcs_i, qcs_r, qcs_l, qst_n, qst_c, qJ_0, qJ_st, qJ_go, qfl_I, qfl_Z, qfl_L, qfl_R, qrI_i, qrL_l, qrV_v, qRcv_0, qRcv_s, eq_self, true_and, and_true, true_or, or_true, false_and, and_false, false_or, or_false, ite_true, if_true, if_false, Bool.true_or, Bool.false_or, Bool.or_false, beq_self_eq_true, Bool.false_eq_true, bX3_bestParter_0, bX3_bestParter_9, bX3_bestParter_38, bX3_bestParter_44, kX3_bestParter_0, kX3_bestParter_9, kX3_bestParter_38, kX3_bestParter_44, qK_41, qR_41_0, qK_13, qR_41_1, qK_25, qR_41_2, qK_42, qR_41_3, qK_43, qR_41_5, qK_44]
  have hmx : ∀ b, zmx F (fun p => U p b) 30 ≤ 30 := fun b => zmx_le _ _ _
  generalize hV : (fun b => zmx F (fun p => U p b) 30) = V
  have hVb : ∀ b, zmx F (fun p => U p b) 30 = V b := fun b => by rw [← hV]
  have hmx : ∀ b, V b ≤ 30 := fun b => by rw [← hVb]; exact hmx b
  refine qdown (n := m) (P := fun b => ∀ l6 : Option qPV, qV 45 3 (.inl fun v σ' => v = nI (zleast V m) ∧ σ' = σ) 9 [some (qr 41), some (qi (nI m)), some (qi (nI (bm 31 (zps F)))), some (qi (nI (zleast V b))), some (qi (nI (if b = 0 then 1000000 else V (zleast V b)))), some (qi (nI b)), l6] [] σ) (fun b hb ih => ?_) 0 (Nat.zero_le _) none
  intro l6
  have e : zleast V (b + 1) = if V b < V (zleast V b) then b else zleast V b := rfl
  refine qV.go 30 [9, 38] ok_45 ?_
  simp only [qW_nop, qW_iconst, qW_ldc, qW_iloadn, qW_iload, qW_aloadn, qW_istoren, qW_istore, qW_iinc, qW_icge, qW_goto, qW_cv3_0, qW_iret0, Nat.reduceAdd, Nat.reduceMul, Nat.reduceBEq, Nat.reduceEqDiff, Nat.reduceLT, Nat.reduceLeDiff, Nat.zero_le, nI_add, nI_mul, nI_cl, qin_eq, qofI, qlg_0, qlg_s, qls_i0, qls_r0, qls_l0, qls_1, qls_2, qkl_i, qkl_r, qkl_l, qkl_n, qIsI_i, qIsL_l, qIsR_r, qint_i, qil_i, qil_r, qil_l, qf4_0, qf4_1, qf4_2, qf4_3, qf2_0, qf2_1, qcs_n, qcs_i, qcs_r, qcs_l, qst_n, qst_c, qJ_0, qJ_st, qJ_go, qfl_I, qfl_Z, qfl_L, qfl_R, qrI_i, qrL_l, qrV_v, qRcv_0, qRcv_s, eq_self, true_and, and_true, true_or, or_true, false_and, and_false, false_or, or_false, ite_true, if_true, if_false, Bool.true_or, Bool.false_or, Bool.or_false, beq_self_eq_true, Bool.false_eq_true, bX3_bestParter_0, bX3_bestParter_9, bX3_bestParter_38, bX3_bestParter_44, kX3_bestParter_0, kX3_bestParter_9, kX3_bestParter_38, kX3_bestParter_44, qK_41, qR_41_0, qK_13, qR_41_1, qK_25, qR_41_2, qK_42, qR_41_3, qK_43, qR_41_5, qK_44]
  simp (disch := omega) only [nI_leI, nI_ltI, nI_eq, nI_cl, qin_eq, nI_add, nI_mul, qb_z, qb_t, qb_f, nI_ne0', Nat.reduceAdd, Bool.false_eq_true, if_false, if_true, true_and, and_true, Nat.reduceEqDiff, not_true_eq_false, not_false_eq_true, false_implies, true_implies, ite_true, ite_false]
  refine ⟨fun g => ?_, fun g => ?_⟩
  · have : b = m := by omega
    subst this
    rfl
  · have nx : ∀ v w l6, v = nI (zleast V (b + 1)) → w = nI (if b + 1 = 0 then 1000000 else V (zleast V (b + 1))) → qV 45 3 (.inl fun v σ' => v = nI (zleast V m) ∧ σ' = σ) 38 [some (qr 41), some (qi (nI m)), some (qi (nI (bm 31 (zps F)))), some (qi v), some (qi w), some (qi (nI b)), l6] [] σ := by
      intro v w l6 hv hw
      subst hv
      subst hw
      refine qV.go 30 [9] ok_45 ?_
      simp only [qW_nop, qW_iconst, qW_ldc, qW_iloadn, qW_iload, qW_aloadn, qW_istoren, qW_istore, qW_iinc, qW_icge, qW_goto, qW_cv3_0, qW_iret0, Nat.reduceAdd, Nat.reduceMul, Nat.reduceBEq, Nat.reduceEqDiff, Nat.reduceLT, Nat.reduceLeDiff, Nat.zero_le, nI_add, nI_mul, nI_cl, qin_eq, qofI, qlg_0, qlg_s, qls_i0, qls_r0, qls_l0, qls_1, qls_2, qkl_i, qkl_r, qkl_l, qkl_n, qIsI_i, qIsL_l, qIsR_r, qint_i, qil_i, qil_r, qil_l, qf4_0, qf4_1, qf4_2, qf4_3, qf2_0, qf2_1, qcs_n, qcs_i, qcs_r, qcs_l, qst_n, qst_c, qJ_0, qJ_st, qJ_go, qfl_I, qfl_Z, qfl_L, qfl_R, qrI_i, qrL_l, qrV_v, qRcv_0, qRcv_s, eq_self, true_and, and_true, true_or, or_true, false_and, and_false, false_or, or_false, ite_true, if_true, if_false, Bool.true_or, Bool.false_or, Bool.or_false, beq_self_eq_true, Bool.false_eq_true, bX3_bestParter_0, bX3_bestParter_9, bX3_bestParter_38, bX3_bestParter_44, kX3_bestParter_0, kX3_bestParter_9, kX3_bestParter_38, kX3_bestParter_44, qK_41, qR_41_0, qK_13, qR_41_1, qK_25, qR_41_2, qK_42, qR_41_3, qK_43, qR_41_5, qK_44]
      exact ih (by omega) l6
    refine qBI.fn (x_mostAlike hm (show b < m by omega) hU (fun p => hU2 p b)) (by decide) ?_
    rw [hVb]
    have m1 := hmx b
    have m2 := hmx (zleast V b)
    have hb' : (if b = 0 then 1000000 else V (zleast V b)) ≤ 1000000 := by split <;> omega
    simp (disch := omega) only [nI_leI, nI_ltI, nI_eq, nI_cl, qin_eq, nI_add, nI_mul, qb_z, qb_t, qb_f, nI_ne0', Nat.reduceAdd, Bool.false_eq_true, if_false, if_true, true_and, and_true, Nat.reduceEqDiff, not_true_eq_false, not_false_eq_true, false_implies, true_implies, ite_true, ite_false]
    refine ⟨fun h1 => ?_, fun h1 => ?_⟩
    · have b0 : b ≠ 0 := fun hh => by rw [if_pos hh] at h1; omega
      rw [if_neg b0] at h1
      refine nx _ _ _ (by rw [e, if_neg (by omega)]) ?_
      rw [if_neg b0, if_neg (by omega), e, if_neg (by omega)]
    · by_cases b0 : b = 0
      · subst b0
        refine nx _ _ _ (by rw [e]; simp [zleast]) ?_
        rw [if_neg (by omega), e]
        simp [zleast]
      · rw [if_neg b0] at h1
        refine nx _ _ _ (by rw [e, if_pos (by omega)]) ?_
        rw [if_neg (by omega), e, if_pos (by omega)]
