/-! the reference: marks' copies -/
/-- copying within the reference's longs -/
def zlm (σ : qSg) (a src dst n : Nat) : qSg := (σ.1, fun c j => if c = a ∧ dst ≤ j ∧ j < dst + n then σ.2 a (src + (j - dst)) else σ.2 c j)
theorem zlm_0 (σ : qSg) (a src dst : Nat) : zlm σ a src dst 0 = σ := by
  unfold zlm
  refine Prod.ext rfl ?_
  funext c j
  exact if_neg (by omega)
theorem zlm_s {σ : qSg} {a src dst k : Nat} (h : src + k < dst ∨ dst + k ≤ src + k) : qwl (zlm σ a src dst k) a (dst + k) ((zlm σ a src dst k).2 a (src + k)) = zlm σ a src dst (k + 1) := by
  refine Prod.ext rfl ?_
  funext c j
  rw [qwl_2]
  by_cases e : c = a ∧ j = dst + k
  · obtain ⟨rfl, rfl⟩ := e
    rw [if_pos ⟨rfl, rfl⟩]
    have e1 : ¬ (True ∧ dst ≤ src + k ∧ src + k < dst + k) := by omega
    have e2 : True ∧ dst ≤ dst + k ∧ dst + k < dst + (k + 1) := ⟨trivial, by omega, by omega⟩
    simp only [zlm]
    rw [if_neg e1, if_pos e2, show dst + k - dst = k by omega]
  · rw [if_neg e]
    simp only [zlm]
    by_cases e2 : c = a ∧ dst ≤ j ∧ j < dst + k
    · rw [if_pos e2, if_pos (by omega)]
    · rw [if_neg e2, if_neg (by omega)]
set_option maxRecDepth 20000 in
theorem m_copies (σ : qSg) {f t : Nat} (hf : f ≤ 3) (ht : t ≤ 3) (hne : f ≠ t) :
    qCV 1 365 [qr 139, qi (nI f), qi (nI t)] σ (fun σ' => σ' = zlm (zmv σ 140 (456 * f) (456 * t) 456) 141 (8 * f) (8 * t) 8) := by
  refine qCV.of [some (qr 139), some (qi (nI f)), some (qi (nI t)), none] ok_365 (Nat.le_of_ble_eq_true rfl) rfl ?_
  refine qV.go 30 [2] ok_365 ?_
  simp only [qW_nop, qW_iconst, qW_bipush, qW_sipush, qW_iloadn, qW_aloadn, qW_istoren, qW_iinc, qW_iadd, qW_imul, qW_icge, qW_goto, qW_getf, qW_iald, qW_lald, qW_iast, qW_last, qW_vret, Nat.reduceAdd, Nat.reduceMul, Nat.reduceBEq, Nat.reduceEqDiff, Nat.reduceLT, Nat.reduceLeDiff, Nat.zero_le, nI_add, nI_mul, nI_cl, qin_eq, qofI, qlg_0, qlg_s, qls_i0, qls_r0, qls_l0, qls_1, qls_2, qkl_i, qkl_r, qkl_l, qkl_n, qIsI_i, qIsL_l, qIsR_r, qint_i, qil_i, qil_r, qil_l, qf4_0, qf4_1, qf4_2, qf4_3, qf2_0, qf2_1, qcs_n, qcs_i, qcs_r, qcs_l, qst_n, qst_c, qJ_0, qJ_st, qJ_go, qfl_I, qfl_Z, qfl_L, qfl_R, qrI_i, qrL_l, qrV_v, qRcv_0, qRcv_s, eq_self, true_and, and_true, true_or, or_true, false_and, and_false, false_or, or_false, ite_true, if_true, if_false, Bool.true_or, Bool.false_or, Bool.or_false, beq_self_eq_true, Bool.false_eq_true, bX12_copies_0, bX12_copies_2, bX12_copies_39, bX12_copies_41, bX12_copies_75, kX12_copies_0, kX12_copies_2, kX12_copies_39, kX12_copies_41, kX12_copies_75, qK_139, qR_139_0, qK_140, qR_139_1, qK_141, qR_139_5, qK_142, qR_139_6, qK_143, qR_139_7, qK_144, qR_139_8, qK_145, qR_139_9, qK_146, qR_139_21, qK_147, qR_139_25, qK_148, qR_139_30, qK_149, qR_139_31, qK_150, qR_139_33, qK_151, qR_139_34, qK_152, qR_139_35, qK_153, qR_139_36, qK_154, qR_139_39, qK_155, qR_139_40, qK_156, qR_139_41, qK_157]
  refine qdown (n := 456) (P := fun k => qV 365 1 (.inr (.inr fun σ' => σ' = zlm (zmv σ 140 (456 * f) (456 * t) 456) 141 (8 * f) (8 * t) 8)) 2 [some (qr 139), some (qi (nI f)), some (qi (nI t)), some (qi (nI k))] [] (zmv σ 140 (456 * f) (456 * t) k)) (fun k hk ih => ?_) 0 (Nat.zero_le _) |> fun hh => by rw [zmv_0] at hh; exact hh
  refine qV.go 30 [2, 41] ok_365 ?_
  simp only [qW_nop, qW_iconst, qW_bipush, qW_sipush, qW_iloadn, qW_aloadn, qW_istoren, qW_iinc, qW_iadd, qW_imul, qW_icge, qW_goto, qW_getf, qW_iald, qW_lald, qW_iast, qW_last, qW_vret, Nat.reduceAdd, Nat.reduceMul, Nat.reduceBEq, Nat.reduceEqDiff, Nat.reduceLT, Nat.reduceLeDiff, Nat.zero_le, nI_add, nI_mul, nI_cl, qin_eq, qofI, qlg_0, qlg_s, qls_i0, qls_r0, qls_l0, qls_1, qls_2, qkl_i, qkl_r, qkl_l, qkl_n, qIsI_i, qIsL_l, qIsR_r, qint_i, qil_i, qil_r, qil_l, qf4_0, qf4_1, qf4_2, qf4_3, qf2_0, qf2_1, qcs_n, qcs_i, qcs_r, qcs_l, qst_n, qst_c, qJ_0, qJ_st, qJ_go, qfl_I, qfl_Z, qfl_L, qfl_R, qrI_i, qrL_l, qrV_v, qRcv_0, qRcv_s, eq_self, true_and, and_true, true_or, or_true, false_and, and_false, false_or, or_false, ite_true, if_true, if_false, Bool.true_or, Bool.false_or, Bool.or_false, beq_self_eq_true, Bool.false_eq_true, bX12_copies_0, bX12_copies_2, bX12_copies_39, bX12_copies_41, bX12_copies_75, kX12_copies_0, kX12_copies_2, kX12_copies_39, kX12_copies_41, kX12_copies_75, qK_139, qR_139_0, qK_140, qR_139_1, qK_141, qR_139_5, qK_142, qR_139_6, qK_143, qR_139_7, qK_144, qR_139_8, qK_145, qR_139_9, qK_146, qR_139_21, qK_147, qR_139_25, qK_148, qR_139_30, qK_149, qR_139_31, qK_150, qR_139_33, qK_151, qR_139_34, qK_152, qR_139_35, qK_153, qR_139_36, qK_154, qR_139_39, qK_155, qR_139_40, qK_156, qR_139_41, qK_157]
  simp (disch := omega) only [nI_leI, nI_ltI, nI_eq, nI_cl, qin_eq, nI_add, nI_mul, qb_z, qb_t, qb_f, nI_ne0', Nat.reduceAdd, Bool.false_eq_true, if_false, if_true, true_and, and_true, Nat.reduceEqDiff, not_true_eq_false, not_false_eq_true, false_implies, true_implies, ite_true, ite_false]
  refine ⟨fun h1 => ?_, fun h1 => ?_⟩
  · rw [show k = 456 by omega]
    generalize zmv σ 140 (456 * f) (456 * t) 456 = σ1
    refine qdown (n := 8) (P := fun k => qV 365 1 (.inr (.inr fun σ' => σ' = zlm σ1 141 (8 * f) (8 * t) 8)) 41 [some (qr 139), some (qi (nI f)), some (qi (nI t)), some (qi (nI k))] [] (zlm σ1 141 (8 * f) (8 * t) k)) (fun k hk ih => ?_) 0 (Nat.zero_le _) |> fun hh => by rw [zlm_0] at hh; exact hh
    refine qV.go 30 [41] ok_365 ?_
    simp only [qW_nop, qW_iconst, qW_bipush, qW_sipush, qW_iloadn, qW_aloadn, qW_istoren, qW_iinc, qW_iadd, qW_imul, qW_icge, qW_goto, qW_getf, qW_iald, qW_lald, qW_iast, qW_last, qW_vret, Nat.reduceAdd, Nat.reduceMul, Nat.reduceBEq, Nat.reduceEqDiff, Nat.reduceLT, Nat.reduceLeDiff, Nat.zero_le, nI_add, nI_mul, nI_cl, qin_eq, qofI, qlg_0, qlg_s, qls_i0, qls_r0, qls_l0, qls_1, qls_2, qkl_i, qkl_r, qkl_l, qkl_n, qIsI_i, qIsL_l, qIsR_r, qint_i, qil_i, qil_r, qil_l, qf4_0, qf4_1, qf4_2, qf4_3, qf2_0, qf2_1, qcs_n, qcs_i, qcs_r, qcs_l, qst_n, qst_c, qJ_0, qJ_st, qJ_go, qfl_I, qfl_Z, qfl_L, qfl_R, qrI_i, qrL_l, qrV_v, qRcv_0, qRcv_s, eq_self, true_and, and_true, true_or, or_true, false_and, and_false, false_or, or_false, ite_true, if_true, if_false, Bool.true_or, Bool.false_or, Bool.or_false, beq_self_eq_true, Bool.false_eq_true, bX12_copies_0, bX12_copies_2, bX12_copies_39, bX12_copies_41, bX12_copies_75, kX12_copies_0, kX12_copies_2, kX12_copies_39, kX12_copies_41, kX12_copies_75, qK_139, qR_139_0, qK_140, qR_139_1, qK_141, qR_139_5, qK_142, qR_139_6, qK_143, qR_139_7, qK_144, qR_139_8, qK_145, qR_139_9, qK_146, qR_139_21, qK_147, qR_139_25, qK_148, qR_139_30, qK_149, qR_139_31, qK_150, qR_139_33, qK_151, qR_139_34, qK_152, qR_139_35, qK_153, qR_139_36, qK_154, qR_139_39, qK_155, qR_139_40, qK_156, qR_139_41, qK_157]
    simp (disch := omega) only [nI_leI, nI_ltI, nI_eq, nI_cl, qin_eq, nI_add, nI_mul, qb_z, qb_t, qb_f, nI_ne0', Nat.reduceAdd, Bool.false_eq_true, if_false, if_true, true_and, and_true, Nat.reduceEqDiff, not_true_eq_false, not_false_eq_true, false_implies, true_implies, ite_true, ite_false]
    refine ⟨fun h1 => ?_, fun h1 => ?_⟩
    · rw [show k = 8 by omega]
    · rw [zlm_s (by omega)]
      exact ih (by omega)
  · rw [zmv_s (by omega)]
    exact ih (by omega)
def zplain (σ : qSg) (t : Nat) : qSg := qwi (qwi (qwi (qwi (fun c j => if c = 140 ∧ t ≤ j ∧ j < t + 456 then nI 0 else σ.1 c j, σ.2) 140 (t + 2) (nI 4)) 140 (t + 3) (nI 3)) 140 (t + 4) (nI 4)) 140 (t + 6) (iI (-1))
set_option maxRecDepth 20000 in
theorem m_plain (σ : qSg) {t : Nat} (ht : t + 456 ≤ 3088) : qCV 1 209 [qr 139, qi (nI t)] σ (fun σ' => σ' = zplain σ t) := by
  refine qCV.of [some (qr 139), some (qi (nI t)), none] ok_209 (Nat.le_of_ble_eq_true rfl) rfl ?_
  refine qV.go 30 [2] ok_209 ?_
  simp only [qW_nop, qW_iconst, qW_iconstm, qW_bipush, qW_sipush, qW_iloadn, qW_aloadn, qW_istoren, qW_iinc, qW_iadd, qW_icge, qW_goto, qW_getf, qW_iast, qW_vret, Nat.reduceAdd, Nat.reduceMul, Nat.reduceBEq, Nat.reduceEqDiff, Nat.reduceLT, Nat.reduceLeDiff, Nat.zero_le, nI_add, nI_mul, nI_cl, qin_eq, qofI, qlg_0, qlg_s, qls_i0, qls_r0, qls_l0, qls_1, qls_2, qkl_i, qkl_r, qkl_l, qkl_n, qIsI_i, qIsL_l, qIsR_r, qint_i, qil_i, qil_r, qil_l, qf4_0, qf4_1, qf4_2, qf4_3, qf2_0, qf2_1, qcs_n, qcs_i, qcs_r, qcs_l, qst_n, qst_c, qJ_0, qJ_st, qJ_go, qfl_I, qfl_Z, qfl_L, qfl_R, qrI_i, qrL_l, qrV_v, qRcv_0, qRcv_s, eq_self, true_and, and_true, true_or, or_true, false_and, and_false, false_or, or_false, ite_true, if_true, if_false, Bool.true_or, Bool.false_or, Bool.or_false, beq_self_eq_true, Bool.false_eq_true, bX12_plain_0, bX12_plain_2, bX12_plain_24, kX12_plain_0, kX12_plain_2, kX12_plain_24, qK_139, qR_139_0, qK_140, qR_139_1, qK_141, qR_139_5, qK_142, qR_139_6, qK_143, qR_139_7, qK_144, qR_139_8, qK_145, qR_139_9, qK_146, qR_139_21, qK_147, qR_139_25, qK_148, qR_139_30, qK_149, qR_139_31, qK_150, qR_139_33, qK_151, qR_139_34, qK_152, qR_139_35, qK_153, qR_139_36, qK_154, qR_139_39, qK_155, qR_139_40, qK_156, qR_139_41, qK_157]
  have step : ∀ k, qwi (fun c j => if c = 140 ∧ t ≤ j ∧ j < t + k then nI 0 else σ.1 c j, σ.2) 140 (t + k) (nI 0) = (fun c j => if c = 140 ∧ t ≤ j ∧ j < t + (k + 1) then nI 0 else σ.1 c j, σ.2) := by
    intro k
    refine Prod.ext ?_ rfl
    funext c j
    rw [qwi_1]
    by_cases e : c = 140 ∧ j = t + k
    · rw [if_pos e]
      exact (if_pos (by omega)).symm
    · rw [if_neg e]
      show (if c = 140 ∧ t ≤ j ∧ j < t + k then nI 0 else σ.1 c j) = (if c = 140 ∧ t ≤ j ∧ j < t + (k + 1) then nI 0 else σ.1 c j)
      by_cases e2 : c = 140 ∧ t ≤ j ∧ j < t + k
      · rw [if_pos e2, if_pos (by omega)]
      · rw [if_neg e2, if_neg (by omega)]
  have z0 : (fun c j => if c = 140 ∧ t ≤ j ∧ j < t + 0 then nI 0 else σ.1 c j, σ.2) = σ := by
    refine Prod.ext ?_ rfl
    funext c j
    exact if_neg (by omega)
  refine qdown (n := 456) (P := fun k => qV 209 1 (.inr (.inr fun σ' => σ' = zplain σ t)) 2 [some (qr 139), some (qi (nI t)), some (qi (nI k))] [] (fun c j => if c = 140 ∧ t ≤ j ∧ j < t + k then nI 0 else σ.1 c j, σ.2)) (fun k hk ih => ?_) 0 (Nat.zero_le _) |> fun hh => by rw [z0] at hh; exact hh
  refine qV.go 30 [2] ok_209 ?_
  simp only [qW_nop, qW_iconst, qW_iconstm, qW_bipush, qW_sipush, qW_iloadn, qW_aloadn, qW_istoren, qW_iinc, qW_iadd, qW_icge, qW_goto, qW_getf, qW_iast, qW_vret, Nat.reduceAdd, Nat.reduceMul, Nat.reduceBEq, Nat.reduceEqDiff, Nat.reduceLT, Nat.reduceLeDiff, Nat.zero_le, nI_add, nI_mul, nI_cl, qin_eq, qofI, qlg_0, qlg_s, qls_i0, qls_r0, qls_l0, qls_1, qls_2, qkl_i, qkl_r, qkl_l, qkl_n, qIsI_i, qIsL_l, qIsR_r, qint_i, qil_i, qil_r, qil_l, qf4_0, qf4_1, qf4_2, qf4_3, qf2_0, qf2_1, qcs_n, qcs_i, qcs_r, qcs_l, qst_n, qst_c, qJ_0, qJ_st, qJ_go, qfl_I, qfl_Z, qfl_L, qfl_R, qrI_i, qrL_l, qrV_v, qRcv_0, qRcv_s, eq_self, true_and, and_true, true_or, or_true, false_and, and_false, false_or, or_false, ite_true, if_true, if_false, Bool.true_or, Bool.false_or, Bool.or_false, beq_self_eq_true, Bool.false_eq_true, bX12_plain_0, bX12_plain_2, bX12_plain_24, kX12_plain_0, kX12_plain_2, kX12_plain_24, qK_139, qR_139_0, qK_140, qR_139_1, qK_141, qR_139_5, qK_142, qR_139_6, qK_143, qR_139_7, qK_144, qR_139_8, qK_145, qR_139_9, qK_146, qR_139_21, qK_147, qR_139_25, qK_148, qR_139_30, qK_149, qR_139_31, qK_150, qR_139_33, qK_151, qR_139_34, qK_152, qR_139_35, qK_153, qR_139_36, qK_154, qR_139_39, qK_155, qR_139_40, qK_156, qR_139_41, qK_157]
  simp (disch := omega) only [nI_leI, nI_ltI, nI_eq, nI_cl, qin_eq, nI_add, nI_mul, qb_z, qb_t, qb_f, nI_ne0', Nat.reduceAdd, Bool.false_eq_true, if_false, if_true, true_and, and_true, Nat.reduceEqDiff, not_true_eq_false, not_false_eq_true, false_implies, true_implies, ite_true, ite_false]
  refine ⟨fun h1 => ?_, fun h1 => ?_⟩
  · rw [show k = 456 by omega]
    rfl
  · rw [step]
    exact ⟨qin_n (by omega) (by decide), ih (by omega)⟩
