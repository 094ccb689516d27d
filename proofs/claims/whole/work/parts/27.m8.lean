/-! the reference: ranges, wars -/
theorem lN_t {n : Nat} (h : n < 2147483648) : (lN n).toInt = n := lN_toInt (by omega)
theorem qlle (x y : Int64) : (x ≤ y) = (x.toInt ≤ y.toInt) := by rw [Int64.le_iff_toInt_le]
theorem qllt (x y : Int64) : (x < y) = (x.toInt < y.toInt) := by rw [Int64.lt_iff_toInt_lt]
set_option maxRecDepth 20000 in
theorem m_isFrom (σ : qSg) (v a b : Int64) : qFI 1 225 [ql v, ql a, ql b] σ (qb (decide (a.toInt ≤ v.toInt) && decide (v.toInt ≤ b.toInt))) := by
  refine qCI.of [some (ql v), none, some (ql a), none, some (ql b), none] ok_225 (Nat.le_of_ble_eq_true rfl) rfl ?_
  refine qV.go 30 [9999] ok_225 ?_
  simp only [qW_nop, qW_iconst, qW_lloadn, qW_lload, qW_lcmp, qW_iflt, qW_ifgt, qW_goto, qW_iret1, Nat.reduceAdd, Nat.reduceMul, Nat.reduceBEq, Nat.reduceEqDiff, Nat.reduceLT, Nat.reduceLeDiff, Nat.zero_le, nI_add, nI_mul, nI_cl, qin_eq, qofI, qlg_0, qlg_s, qls_i0, qls_r0, qls_l0, qls_1, qls_2, qkl_i, qkl_r, qkl_l, qkl_n, qIsI_i, qIsL_l, qIsR_r, qint_i, qil_i, qil_r, qil_l, qf4_0, qf4_1, qf4_2, qf4_3, qf2_0, qf2_1, qcs_n, qcs_i, qcs_r, qcs_l, qst_n, qst_c, qJ_0, qJ_st, qJ_go, qfl_I, qfl_Z, qfl_L, qfl_R, qrI_i, qrL_l, qrV_v, qRcv_0, qRcv_s, eq_self, true_and, and_true, true_or, or_true, false_and, and_false, false_or, or_false, ite_true, if_true, if_false, Bool.true_or, Bool.false_or, Bool.or_false, beq_self_eq_true, Bool.false_eq_true, bX12_isFrom_0, bX12_isFrom_17, bX12_isFrom_18, kX12_isFrom_0, kX12_isFrom_17, kX12_isFrom_18]
  simp only [lg_cmp_lt, lg_cmp_gt, lg_cmp_le, lg_cmp_ge, qllt, qlle]
  by_cases h1 : a.toInt ≤ v.toInt <;> by_cases h2 : v.toInt ≤ b.toInt <;> simp [h1, h2, qb] <;> omega
theorem m_isFrom' (σ : qSg) (v : Int64) {lo hi : Nat} (h1 : lo < 2147483648) (h2 : hi < 2147483648) : qFI 1 225 [ql v, ql (lN lo), ql (lN hi)] σ (qb (zlh v lo hi)) := by
  have := m_isFrom σ v (lN lo) (lN hi)
  rw [lN_t h1, lN_t h2] at this
  exact this
set_option maxRecDepth 20000 in
theorem m_isTray (σ : qSg) (t : Int32) : qFI 1 218 [qi t] σ (qb (zrg t 4)) := by
  unfold zrg
  refine qCI.of [some (qi t)] ok_218 (Nat.le_of_ble_eq_true rfl) rfl ?_
  refine qV.go 30 [9999] ok_218 ?_
  simp only [qW_nop, qW_iconst, qW_iloadn, qW_iflt, qW_icge, qW_goto, qW_iret1, Nat.reduceAdd, Nat.reduceMul, Nat.reduceBEq, Nat.reduceEqDiff, Nat.reduceLT, Nat.reduceLeDiff, Nat.zero_le, nI_add, nI_mul, nI_cl, qin_eq, qofI, qlg_0, qlg_s, qls_i0, qls_r0, qls_l0, qls_1, qls_2, qkl_i, qkl_r, qkl_l, qkl_n, qIsI_i, qIsL_l, qIsR_r, qint_i, qil_i, qil_r, qil_l, qf4_0, qf4_1, qf4_2, qf4_3, qf2_0, qf2_1, qcs_n, qcs_i, qcs_r, qcs_l, qst_n, qst_c, qJ_0, qJ_st, qJ_go, qfl_I, qfl_Z, qfl_L, qfl_R, qrI_i, qrL_l, qrV_v, qRcv_0, qRcv_s, eq_self, true_and, and_true, true_or, or_true, false_and, and_false, false_or, or_false, ite_true, if_true, if_false, Bool.true_or, Bool.false_or, Bool.or_false, beq_self_eq_true, Bool.false_eq_true, bX12_isTray_0, bX12_isTray_13, bX12_isTray_14, kX12_isTray_0, kX12_isTray_13, kX12_isTray_14]
  simp only [qlt0, qle, nI_t (show 4 < 2147483648 by decide)]
  by_cases h1 : t.toInt < 0 <;> by_cases h2 : 4 ≤ t.toInt <;> simp [h1, h2, qb] <;> omega
set_option maxRecDepth 20000 in
theorem m_isBoy {σ : qSg} {C : zC} (h : zM σ 0 C) (hw : zW C) (v : Int64) : qFI 1 259 [qr 139, ql v] σ (qb (zrl v (C 0 0))) := by
  unfold zrl
  obtain ⟨wb, wq, ww1, ww2, wh1, wh2, wo, wm, wB, wQ⟩ := id hw
  refine qCI.of [some (qr 139), some (ql v), none] ok_259 (Nat.le_of_ble_eq_true rfl) rfl ?_
  refine qV.go 30 [9999] ok_259 ?_
  simp only [qW_nop, qW_iconst, qW_lconst, qW_lloadn, qW_aloadn, qW_lcmp, qW_i2l, qW_iflt, qW_ifge, qW_goto, qW_getf, qW_iald, qW_iret1, Nat.reduceAdd, Nat.reduceMul, Nat.reduceBEq, Nat.reduceEqDiff, Nat.reduceLT, Nat.reduceLeDiff, Nat.zero_le, nI_add, nI_mul, nI_cl, qin_eq, qofI, qlg_0, qlg_s, qls_i0, qls_r0, qls_l0, qls_1, qls_2, qkl_i, qkl_r, qkl_l, qkl_n, qIsI_i, qIsL_l, qIsR_r, qint_i, qil_i, qil_r, qil_l, qf4_0, qf4_1, qf4_2, qf4_3, qf2_0, qf2_1, qcs_n, qcs_i, qcs_r, qcs_l, qst_n, qst_c, qJ_0, qJ_st, qJ_go, qfl_I, qfl_Z, qfl_L, qfl_R, qrI_i, qrL_l, qrV_v, qRcv_0, qRcv_s, eq_self, true_and, and_true, true_or, or_true, false_and, and_false, false_or, or_false, ite_true, if_true, if_false, Bool.true_or, Bool.false_or, Bool.or_false, beq_self_eq_true, Bool.false_eq_true, bX12_isBoy_0, bX12_isBoy_22, bX12_isBoy_23, kX12_isBoy_0, kX12_isBoy_22, kX12_isBoy_23, qK_139, qR_139_0, qK_140, qR_139_1, qK_141, qR_139_5, qK_142, qR_139_6, qK_143, qR_139_7, qK_144, qR_139_8, qK_145, qR_139_9, qK_146, qR_139_21, qK_147, qR_139_25, qK_148, qR_139_30, qK_149, qR_139_31, qK_150, qR_139_33, qK_151, qR_139_34, qK_152, qR_139_35, qK_153, qR_139_36, qK_154, qR_139_39, qK_155, qR_139_40, qK_156, qR_139_41, qK_157]
  rw [zM_s h 0 (by decide)]
  simp only [lg_cmp_lt, lg_cmp_gt, lg_cmp_le, lg_cmp_ge, qllt, qlle, qi2l, nI_t (show C 0 0 < 2147483648 by omega)]
  have l0 : (lN 0).toInt = 0 := lN_t (by decide)
  rw [l0]
  by_cases h1 : 0 ≤ v.toInt <;> by_cases h2 : v.toInt < C 0 0 <;> simp [h1, h2, qb] <;> omega
set_option maxRecDepth 20000 in
theorem m_isQuarrel {σ : qSg} {C : zC} (h : zM σ 0 C) (hw : zW C) (x : Int32) : qFI 1 260 [qr 139, qi x] σ (qb (zrg x (C 0 1))) := by
  unfold zrg
  obtain ⟨wb, wq, ww1, ww2, wh1, wh2, wo, wm, wB, wQ⟩ := id hw
  refine qCI.of [some (qr 139), some (qi x)] ok_260 (Nat.le_of_ble_eq_true rfl) rfl ?_
  refine qV.go 30 [9999] ok_260 ?_
  simp only [qW_nop, qW_iconst, qW_iloadn, qW_aloadn, qW_iflt, qW_icge, qW_goto, qW_getf, qW_iald, qW_iret1, Nat.reduceAdd, Nat.reduceMul, Nat.reduceBEq, Nat.reduceEqDiff, Nat.reduceLT, Nat.reduceLeDiff, Nat.zero_le, nI_add, nI_mul, nI_cl, qin_eq, qofI, qlg_0, qlg_s, qls_i0, qls_r0, qls_l0, qls_1, qls_2, qkl_i, qkl_r, qkl_l, qkl_n, qIsI_i, qIsL_l, qIsR_r, qint_i, qil_i, qil_r, qil_l, qf4_0, qf4_1, qf4_2, qf4_3, qf2_0, qf2_1, qcs_n, qcs_i, qcs_r, qcs_l, qst_n, qst_c, qJ_0, qJ_st, qJ_go, qfl_I, qfl_Z, qfl_L, qfl_R, qrI_i, qrL_l, qrV_v, qRcv_0, qRcv_s, eq_self, true_and, and_true, true_or, or_true, false_and, and_false, false_or, or_false, ite_true, if_true, if_false, Bool.true_or, Bool.false_or, Bool.or_false, beq_self_eq_true, Bool.false_eq_true, bX12_isQuarrel_0, bX12_isQuarrel_18, bX12_isQuarrel_19, kX12_isQuarrel_0, kX12_isQuarrel_18, kX12_isQuarrel_19, qK_139, qR_139_0, qK_140, qR_139_1, qK_141, qR_139_5, qK_142, qR_139_6, qK_143, qR_139_7, qK_144, qR_139_8, qK_145, qR_139_9, qK_146, qR_139_21, qK_147, qR_139_25, qK_148, qR_139_30, qK_149, qR_139_31, qK_150, qR_139_33, qK_151, qR_139_34, qK_152, qR_139_35, qK_153, qR_139_36, qK_154, qR_139_39, qK_155, qR_139_40, qK_156, qR_139_41, qK_157]
  rw [zM_s h 1 (by decide)]
  simp only [qlt0, qle, qlt, nI_t (show C 0 1 < 2147483648 by omega)]
  by_cases h1 : x.toInt < 0 <;> by_cases h2 : (C 0 1 : Int) ≤ x.toInt <;> simp [h1, h2, qb] <;> omega
set_option maxRecDepth 20000 in
theorem m_isCell {σ : qSg} {C : zC} (h : zM σ 0 C) (hw : zW C) (x : Int32) : qFI 2 261 [qr 139, qi x] σ (qb (zrg x (C 0 2 * C 0 3))) := by
  unfold zrg
  obtain ⟨wb, wq, ww1, ww2, wh1, wh2, wo, wm, wB, wQ⟩ := id hw
  have gm : C 0 2 * C 0 3 ≤ 6 * 6 := Nat.mul_le_mul ww2 wh2
  refine qCI.of [some (qr 139), some (qi x)] ok_261 (Nat.le_of_ble_eq_true rfl) rfl ?_
  refine qV.go 30 [9999] ok_261 ?_
  simp only [qW_nop, qW_iconst, qW_iloadn, qW_aloadn, qW_iflt, qW_icge, qW_goto, qW_cv1_0, qW_iret1, Nat.reduceAdd, Nat.reduceMul, Nat.reduceBEq, Nat.reduceEqDiff, Nat.reduceLT, Nat.reduceLeDiff, Nat.zero_le, nI_add, nI_mul, nI_cl, qin_eq, qofI, qlg_0, qlg_s, qls_i0, qls_r0, qls_l0, qls_1, qls_2, qkl_i, qkl_r, qkl_l, qkl_n, qIsI_i, qIsL_l, qIsR_r, qint_i, qil_i, qil_r, qil_l, qf4_0, qf4_1, qf4_2, qf4_3, qf2_0, qf2_1, qcs_n, qcs_i, qcs_r, qcs_l, qst_n, qst_c, qJ_0, qJ_st, qJ_go, qfl_I, qfl_Z, qfl_L, qfl_R, qrI_i, qrL_l, qrV_v, qRcv_0, qRcv_s, eq_self, true_and, and_true, true_or, or_true, false_and, and_false, false_or, or_false, ite_true, if_true, if_false, Bool.true_or, Bool.false_or, Bool.or_false, beq_self_eq_true, Bool.false_eq_true, bX12_isCell_0, bX12_isCell_16, bX12_isCell_17, kX12_isCell_0, kX12_isCell_16, kX12_isCell_17, qK_139, qR_139_0, qK_140, qR_139_1, qK_141, qR_139_5, qK_142, qR_139_6, qK_143, qR_139_7, qK_144, qR_139_8, qK_145, qR_139_9, qK_146, qR_139_21, qK_147, qR_139_25, qK_148, qR_139_30, qK_149, qR_139_31, qK_150, qR_139_33, qK_151, qR_139_34, qK_152, qR_139_35, qK_153, qR_139_36, qK_154, qR_139_39, qK_155, qR_139_40, qK_156, qR_139_41, qK_157]
  simp only [qlt0]
  refine ⟨fun h1 => ?_, fun h1 => ?_⟩
  · simp [qb]; omega
  · refine qBI.fn (m_cells h hw) (by decide) ?_
    simp only [qle, nI_t (show C 0 2 * C 0 3 < 2147483648 by omega)]
    generalize C 0 2 * C 0 3 = m at *
    by_cases h2 : (m : Int) ≤ x.toInt <;> simp [h2, qb] <;> omega
-- wars
def zhave (g a b : Nat) : Int := if b < a then (g : Int) - b else -(a : Int)
def zrest (g a b n : Nat) : Bool := zall (fun k => decide (¬ zhave g a b < zhave g k b) && decide (¬ zhave g b a < zhave g k a)) (n + 1)
set_option maxRecDepth 20000 in
theorem m_haveOf (σ : qSg) {g a b : Nat} (hg : g < 1000) (ha : a < 1000) (hb : b < 1000) : qFI 1 340 [qi (nI g), qi (nI a), qi (nI b)] σ (iI (zhave g a b)) := by
  refine qCI.of [some (qi (nI g)), some (qi (nI a)), some (qi (nI b))] ok_340 (Nat.le_of_ble_eq_true rfl) rfl ?_
  refine qV.go 30 [9999] ok_340 ?_
  simp only [qW_nop, qW_iloadn, qW_isub, qW_ineg, qW_icle, qW_goto, qW_iret0, Nat.reduceAdd, Nat.reduceMul, Nat.reduceBEq, Nat.reduceEqDiff, Nat.reduceLT, Nat.reduceLeDiff, Nat.zero_le, nI_add, nI_mul, nI_cl, qin_eq, qofI, qlg_0, qlg_s, qls_i0, qls_r0, qls_l0, qls_1, qls_2, qkl_i, qkl_r, qkl_l, qkl_n, qIsI_i, qIsL_l, qIsR_r, qint_i, qil_i, qil_r, qil_l, qf4_0, qf4_1, qf4_2, qf4_3, qf2_0, qf2_1, qcs_n, qcs_i, qcs_r, qcs_l, qst_n, qst_c, qJ_0, qJ_st, qJ_go, qfl_I, qfl_Z, qfl_L, qfl_R, qrI_i, qrL_l, qrV_v, qRcv_0, qRcv_s, eq_self, true_and, and_true, true_or, or_true, false_and, and_false, false_or, or_false, ite_true, if_true, if_false, Bool.true_or, Bool.false_or, Bool.or_false, beq_self_eq_true, Bool.false_eq_true, bX12_haveOf_0, bX12_haveOf_11, bX12_haveOf_13, kX12_haveOf_0, kX12_haveOf_11, kX12_haveOf_13]
  simp (disch := omega) only [nI_leI, nI_ltI, nI_eq, nI_cl, qin_eq, nI_add, nI_mul, qb_z, qb_t, qb_f, nI_ne0', Nat.reduceAdd, Bool.false_eq_true, if_false, if_true, true_and, and_true, Nat.reduceEqDiff, not_true_eq_false, not_false_eq_true, false_implies, true_implies, ite_true, ite_false]
  refine ⟨fun h1 => ?_, fun h1 => ?_⟩
  · rw [iI_nat, iI_neg]; congr 1; unfold zhave; rw [if_neg (by omega)]
  · rw [iI_nat, iI_nat, iI_sub]; congr 1; unfold zhave; rw [if_pos (by omega)]
theorem zhave_bd (g a b : Nat) (hg : g < 1000) (ha : a < 1000) (hb : b < 1000) : -1000 < zhave g a b ∧ zhave g a b < 1000 := by
  unfold zhave
  split <;> omega
set_option maxRecDepth 20000 in
theorem m_isRest (σ : qSg) {g a b n : Nat} (hg : g < 1000) (ha : a < 1000) (hb : b < 1000) (hn : n < 900) : qFI 2 341 [qi (nI g), qi (nI a), qi (nI b), qi (nI n)] σ (qb (zrest g a b n)) := by
  refine qCI.of [some (qi (nI g)), some (qi (nI a)), some (qi (nI b)), some (qi (nI n)), none] ok_341 (Nat.le_of_ble_eq_true rfl) rfl ?_
  refine qV.go 30 [3] ok_341 ?_
  simp only [qW_nop, qW_iconst, qW_iloadn, qW_iload, qW_istore, qW_iinc, qW_icgt, qW_icle, qW_goto, qW_cs3_0, qW_iret1, Nat.reduceAdd, Nat.reduceMul, Nat.reduceBEq, Nat.reduceEqDiff, Nat.reduceLT, Nat.reduceLeDiff, Nat.zero_le, nI_add, nI_mul, nI_cl, qin_eq, qofI, qlg_0, qlg_s, qls_i0, qls_r0, qls_l0, qls_1, qls_2, qkl_i, qkl_r, qkl_l, qkl_n, qIsI_i, qIsL_l, qIsR_r, qint_i, qil_i, qil_r, qil_l, qf4_0, qf4_1, qf4_2, qf4_3, qf2_0, qf2_1, qcs_n, qcs_i, qcs_r, qcs_l, qst_n, qst_c, qJ_0, qJ_st, qJ_go, qfl_I, qfl_Z, qfl_L, qfl_R, qrI_i, qrL_l, qrV_v, qRcv_0, qRcv_s, eq_self, true_and, and_true, true_or, or_true, false_and, and_false, false_or, or_false, ite_true, if_true, if_false, Bool.true_or, Bool.false_or, Bool.or_false, beq_self_eq_true, Bool.false_eq_true, bX12_isRest_0, bX12_isRest_3, bX12_isRest_41, bX12_isRest_43, bX12_isRest_49, kX12_isRest_0, kX12_isRest_3, kX12_isRest_41, kX12_isRest_43, kX12_isRest_49]
  refine qdown (n := n + 1) (P := fun k => zall (fun k => decide (¬ zhave g a b < zhave g k b) && decide (¬ zhave g b a < zhave g k a)) k = true → qV 341 2 _ 3 [some (qi (nI g)), some (qi (nI a)), some (qi (nI b)), some (qi (nI n)), some (qi (nI k))] [] σ) (fun k hk ih => ?_) 0 (Nat.zero_le _) rfl
  intro hp
  have no : ∀ k, k < n + 1 → (zhave g a b < zhave g k b ∨ zhave g b a < zhave g k a) → zrest g a b n = false := by
    intro k hk hh
    cases hz : zrest g a b n with
    | false => rfl
    | true =>
      have := (zall_iff _ _).mp hz k hk
      simp only [Bool.and_eq_true, decide_eq_true_eq] at this
      omega
  refine qV.go 30 [3] ok_341 ?_
  simp only [qW_nop, qW_iconst, qW_iloadn, qW_iload, qW_istore, qW_iinc, qW_icgt, qW_icle, qW_goto, qW_cs3_0, qW_iret1, Nat.reduceAdd, Nat.reduceMul, Nat.reduceBEq, Nat.reduceEqDiff, Nat.reduceLT, Nat.reduceLeDiff, Nat.zero_le, nI_add, nI_mul, nI_cl, qin_eq, qofI, qlg_0, qlg_s, qls_i0, qls_r0, qls_l0, qls_1, qls_2, qkl_i, qkl_r, qkl_l, qkl_n, qIsI_i, qIsL_l, qIsR_r, qint_i, qil_i, qil_r, qil_l, qf4_0, qf4_1, qf4_2, qf4_3, qf2_0, qf2_1, qcs_n, qcs_i, qcs_r, qcs_l, qst_n, qst_c, qJ_0, qJ_st, qJ_go, qfl_I, qfl_Z, qfl_L, qfl_R, qrI_i, qrL_l, qrV_v, qRcv_0, qRcv_s, eq_self, true_and, and_true, true_or, or_true, false_and, and_false, false_or, or_false, ite_true, if_true, if_false, Bool.true_or, Bool.false_or, Bool.or_false, beq_self_eq_true, Bool.false_eq_true, bX12_isRest_0, bX12_isRest_3, bX12_isRest_41, bX12_isRest_43, bX12_isRest_49, kX12_isRest_0, kX12_isRest_3, kX12_isRest_41, kX12_isRest_43, kX12_isRest_49]
  simp (disch := omega) only [nI_leI, nI_ltI, nI_eq, nI_cl, qin_eq, nI_add, nI_mul, qb_z, qb_t, qb_f, nI_ne0', Nat.reduceAdd, Bool.false_eq_true, if_false, if_true, true_and, and_true, Nat.reduceEqDiff, not_true_eq_false, not_false_eq_true, false_implies, true_implies, ite_true, ite_false]
  refine ⟨fun h1 => ?_, fun h1 => ?_⟩
  · have e : k = n + 1 := by omega
    subst e
    unfold zrest
    rw [hp]
    simp (disch := omega) only [nI_leI, nI_ltI, nI_eq, nI_cl, qin_eq, nI_add, nI_mul, qb_z, qb_t, qb_f, nI_ne0', Nat.reduceAdd, Bool.false_eq_true, if_false, if_true, true_and, and_true, Nat.reduceEqDiff, not_true_eq_false, not_false_eq_true, false_implies, true_implies, ite_true, ite_false]
  · have hk1 : k < n + 1 := by omega
    have d1 := zhave_bd g k b hg (by omega) hb
    have d2 := zhave_bd g a b hg ha hb
    have d3 := zhave_bd g k a hg (by omega) ha
    have d4 := zhave_bd g b a hg hb ha
    refine qBI.fn (m_haveOf σ hg (by omega) hb) (by decide) (qBI.fn (m_haveOf σ hg ha hb) (by decide) ?_)
    simp only [qlt, qle, iI_toInt (show -2147483648 ≤ zhave g k b by omega) (by omega), iI_toInt (show -2147483648 ≤ zhave g a b by omega) (by omega)]
    refine ⟨fun h2 => ?_, fun h2 => ?_⟩
    · rw [no k hk1 (by omega)]
      exact ⟨rfl, trivial⟩
    · refine qBI.fn (m_haveOf σ hg (by omega) ha) (by decide) (qBI.fn (m_haveOf σ hg hb ha) (by decide) ?_)
      simp only [qlt, qle, iI_toInt (show -2147483648 ≤ zhave g k a by omega) (by omega), iI_toInt (show -2147483648 ≤ zhave g b a by omega) (by omega)]
      refine ⟨fun h3 => ?_, fun h3 => ?_⟩
      · exact ih hk1 (by simp only [zall, hp, Bool.true_and, Bool.and_eq_true, decide_eq_true_eq]; omega)
      · rw [no k hk1 (by omega)]
        exact ⟨rfl, trivial⟩
def zseek (p : Nat → Bool) : Nat → Nat → Nat → Option Nat
  | 0, _, _ => none
  | f + 1, i, k => if p i = true then (if k = 0 then some i else zseek p f (i + 1) (k - 1)) else zseek p f (i + 1) k
def zrp (g n i : Nat) : Bool := zrest g (i / (n + 1)) (i % (n + 1)) n
theorem zseek_lt (p : Nat → Bool) : ∀ f i k r, zseek p f i k = some r → r < i + f
  | 0, _, _, _, h => by simp [zseek] at h
  | f + 1, i, k, r, h => by
    simp only [zseek] at h
    split at h
    · split at h
      · cases h; omega
      · have := zseek_lt p f _ _ _ h; omega
    · have := zseek_lt p f _ _ _ h; omega
theorem zdm {a b n : Nat} (hb : b < n + 1) : (a * (n + 1) + b) / (n + 1) = a ∧ (a * (n + 1) + b) % (n + 1) = b := by
  refine ⟨?_, ?_⟩
  · rw [Nat.mul_comm, Nat.mul_add_div (by omega), Nat.div_eq_of_lt hb, Nat.add_zero]
  · rw [Nat.mul_comm, Nat.mul_add_mod, Nat.mod_eq_of_lt hb]
set_option maxRecDepth 20000 in
theorem m_restOf {σ : qSg} {C : zC} (h : zM σ 0 C) (hw : zW C) {q n k : Nat} (hq : q < C 0 1) (hn : n ≤ 20) (hk : k < 2147483648) : qFI 3 342 [qr 139, qi (nI q), qi (nI n), qi (nI k)] σ (match zseek (zrp (C 8 q) n) ((n + 1) * (n + 1)) 0 k with | some i => nI (100 * (i / (n + 1)) + i % (n + 1)) | none => iI (-1)) := by
  obtain ⟨wb, wq, ww1, ww2, wh1, wh2, wo, wm, wB, wQ⟩ := id hw
  have g := wQ q hq
  refine qCI.of [some (qr 139), some (qi (nI q)), some (qi (nI n)), some (qi (nI k)), none, none, none] ok_342 (Nat.le_of_ble_eq_true rfl) rfl ?_
  refine qV.go 30 [6] ok_342 ?_
  simp only [qW_nop, qW_iconst, qW_iconstm, qW_bipush, qW_iloadn, qW_iload, qW_aloadn, qW_istore, qW_iinc, qW_iincm, qW_iadd, qW_imul, qW_ifne, qW_icgt, qW_goto, qW_cs4_0, qW_cv3_0, qW_iret0, Nat.reduceAdd, Nat.reduceMul, Nat.reduceBEq, Nat.reduceEqDiff, Nat.reduceLT, Nat.reduceLeDiff, Nat.zero_le, nI_add, nI_mul, nI_cl, qin_eq, qofI, qlg_0, qlg_s, qls_i0, qls_r0, qls_l0, qls_1, qls_2, qkl_i, qkl_r, qkl_l, qkl_n, qIsI_i, qIsL_l, qIsR_r, qint_i, qil_i, qil_r, qil_l, qf4_0, qf4_1, qf4_2, qf4_3, qf2_0, qf2_1, qcs_n, qcs_i, qcs_r, qcs_l, qst_n, qst_c, qJ_0, qJ_st, qJ_go, qfl_I, qfl_Z, qfl_L, qfl_R, qrI_i, qrL_l, qrV_v, qRcv_0, qRcv_s, eq_self, true_and, and_true, true_or, or_true, false_and, and_false, false_or, or_false, ite_true, if_true, if_false, Bool.true_or, Bool.false_or, Bool.or_false, beq_self_eq_true, Bool.false_eq_true, bX12_restOf_0, bX12_restOf_6, bX12_restOf_15, bX12_restOf_41, bX12_restOf_55, bX12_restOf_58, bX12_restOf_64, bX12_restOf_70, kX12_restOf_0, kX12_restOf_6, kX12_restOf_15, kX12_restOf_41, kX12_restOf_55, kX12_restOf_58, kX12_restOf_64, kX12_restOf_70, qK_139, qR_139_0, qK_140, qR_139_1, qK_141, qR_139_5, qK_142, qR_139_6, qK_143, qR_139_7, qK_144, qR_139_8, qK_145, qR_139_9, qK_146, qR_139_21, qK_147, qR_139_25, qK_148, qR_139_30, qK_149, qR_139_31, qK_150, qR_139_33, qK_151, qR_139_34, qK_152, qR_139_35, qK_153, qR_139_36, qK_154, qR_139_39, qK_155, qR_139_40, qK_156, qR_139_41, qK_157]
  have key := qdown (n := n + 1) (P := fun a => ∀ (l : Nat) (l6 : Option qPV), l < 2147483648 → zseek (zrp (C 8 q) n) ((n + 1) * (n + 1) - a * (n + 1)) (a * (n + 1)) l = zseek (zrp (C 8 q) n) ((n + 1) * (n + 1)) 0 k →
    qV 342 3 (.inl fun r σ' => (r = (match zseek (zrp (C 8 q) n) ((n + 1) * (n + 1)) 0 k with | some i => nI (100 * (i / (n + 1)) + i % (n + 1)) | none => iI (-1))) ∧ σ' = σ) 6 [some (qr 139), some (qi (nI q)), some (qi (nI n)), some (qi (nI k)), some (qi (nI l)), some (qi (nI a)), l6] [] σ) (fun a ha ih => ?_)
  · exact key 0 (Nat.zero_le _) k none hk (by rw [Nat.zero_mul, Nat.sub_zero])
  · intro l l6 hl he
    refine qV.go 30 [6, 15] ok_342 ?_
    simp only [qW_nop, qW_iconst, qW_iconstm, qW_bipush, qW_iloadn, qW_iload, qW_aloadn, qW_istore, qW_iinc, qW_iincm, qW_iadd, qW_imul, qW_ifne, qW_icgt, qW_goto, qW_cs4_0, qW_cv3_0, qW_iret0, Nat.reduceAdd, Nat.reduceMul, Nat.reduceBEq, Nat.reduceEqDiff, Nat.reduceLT, Nat.reduceLeDiff, Nat.zero_le, nI_add, nI_mul, nI_cl, qin_eq, qofI, qlg_0, qlg_s, qls_i0, qls_r0, qls_l0, qls_1, qls_2, qkl_i, qkl_r, qkl_l, qkl_n, qIsI_i, qIsL_l, qIsR_r, qint_i, qil_i, qil_r, qil_l, qf4_0, qf4_1, qf4_2, qf4_3, qf2_0, qf2_1, qcs_n, qcs_i, qcs_r, qcs_l, qst_n, qst_c, qJ_0, qJ_st, qJ_go, qfl_I, qfl_Z, qfl_L, qfl_R, qrI_i, qrL_l, qrV_v, qRcv_0, qRcv_s, eq_self, true_and, and_true, true_or, or_true, false_and, and_false, false_or, or_false, ite_true, if_true, if_false, Bool.true_or, Bool.false_or, Bool.or_false, beq_self_eq_true, Bool.false_eq_true, bX12_restOf_0, bX12_restOf_6, bX12_restOf_15, bX12_restOf_41, bX12_restOf_55, bX12_restOf_58, bX12_restOf_64, bX12_restOf_70, kX12_restOf_0, kX12_restOf_6, kX12_restOf_15, kX12_restOf_41, kX12_restOf_55, kX12_restOf_58, kX12_restOf_64, kX12_restOf_70, qK_139, qR_139_0, qK_140, qR_139_1, qK_141, qR_139_5, qK_142, qR_139_6, qK_143, qR_139_7, qK_144, qR_139_8, qK_145, qR_139_9, qK_146, qR_139_21, qK_147, qR_139_25, qK_148, qR_139_30, qK_149, qR_139_31, qK_150, qR_139_33, qK_151, qR_139_34, qK_152, qR_139_35, qK_153, qR_139_36, qK_154, qR_139_39, qK_155, qR_139_40, qK_156, qR_139_41, qK_157]
    simp (disch := omega) only [nI_leI, nI_ltI, nI_eq, nI_cl, qin_eq, nI_add, nI_mul, qb_z, qb_t, qb_f, nI_ne0', Nat.reduceAdd, Bool.false_eq_true, if_false, if_true, true_and, and_true, Nat.reduceEqDiff, not_true_eq_false, not_false_eq_true, false_implies, true_implies, ite_true, ite_false]
    refine ⟨fun h1 => ?_, fun h1 => ?_⟩
    · have e : a = n + 1 := by omega
      subst e
      rw [Nat.sub_self] at he
      rw [← he]
      rfl
    · have ha1 : a < n + 1 := by omega
      have hsz : a * (n + 1) + (n + 1) ≤ (n + 1) * (n + 1) := by
        have := Nat.mul_le_mul_right (n + 1) (show a + 1 ≤ n + 1 by omega)
        rw [Nat.add_mul, Nat.one_mul] at this
        exact this
      have key2 := qdown (n := n + 1) (P := fun b => ∀ l, l < 2147483648 → zseek (zrp (C 8 q) n) ((n + 1) * (n + 1) - (a * (n + 1) + b)) (a * (n + 1) + b) l = zseek (zrp (C 8 q) n) ((n + 1) * (n + 1)) 0 k →
        qV 342 3 (.inl fun r σ' => (r = (match zseek (zrp (C 8 q) n) ((n + 1) * (n + 1)) 0 k with | some i => nI (100 * (i / (n + 1)) + i % (n + 1)) | none => iI (-1))) ∧ σ' = σ) 15 [some (qr 139), some (qi (nI q)), some (qi (nI n)), some (qi (nI k)), some (qi (nI l)), some (qi (nI a)), some (qi (nI b))] [] σ) (fun b hb ih2 => ?_)
      · exact key2 0 (Nat.zero_le _) l hl (by rw [Nat.add_zero]; exact he)
      · intro l hl he
        refine qV.go 30 [6, 15] ok_342 ?_
        simp only [qW_nop, qW_iconst, qW_iconstm, qW_bipush, qW_iloadn, qW_iload, qW_aloadn, qW_istore, qW_iinc, qW_iincm, qW_iadd, qW_imul, qW_ifne, qW_icgt, qW_goto, qW_cs4_0, qW_cv3_0, qW_iret0, Nat.reduceAdd, Nat.reduceMul, Nat.reduceBEq, Nat.reduceEqDiff, Nat.reduceLT, Nat.reduceLeDiff, Nat.zero_le, nI_add, nI_mul, nI_cl, qin_eq, qofI, qlg_0, qlg_s, qls_i0, qls_r0, qls_l0, qls_1, qls_2, qkl_i, qkl_r, qkl_l, qkl_n, qIsI_i, qIsL_l, qIsR_r, qint_i, qil_i, qil_r, qil_l, qf4_0, qf4_1, qf4_2, qf4_3, qf2_0, qf2_1, qcs_n, qcs_i, qcs_r, qcs_l, qst_n, qst_c, qJ_0, qJ_st, qJ_go, qfl_I, qfl_Z, qfl_L, qfl_R, qrI_i, qrL_l, qrV_v, qRcv_0, qRcv_s, eq_self, true_and, and_true, true_or, or_true, false_and, and_false, false_or, or_false, ite_true, if_true, if_false, Bool.true_or, Bool.false_or, Bool.or_false, beq_self_eq_true, Bool.false_eq_true, bX12_restOf_0, bX12_restOf_6, bX12_restOf_15, bX12_restOf_41, bX12_restOf_55, bX12_restOf_58, bX12_restOf_64, bX12_restOf_70, kX12_restOf_0, kX12_restOf_6, kX12_restOf_15, kX12_restOf_41, kX12_restOf_55, kX12_restOf_58, kX12_restOf_64, kX12_restOf_70, qK_139, qR_139_0, qK_140, qR_139_1, qK_141, qR_139_5, qK_142, qR_139_6, qK_143, qR_139_7, qK_144, qR_139_8, qK_145, qR_139_9, qK_146, qR_139_21, qK_147, qR_139_25, qK_148, qR_139_30, qK_149, qR_139_31, qK_150, qR_139_33, qK_151, qR_139_34, qK_152, qR_139_35, qK_153, qR_139_36, qK_154, qR_139_39, qK_155, qR_139_40, qK_156, qR_139_41, qK_157]
        simp (disch := omega) only [nI_leI, nI_ltI, nI_eq, nI_cl, qin_eq, nI_add, nI_mul, qb_z, qb_t, qb_f, nI_ne0', Nat.reduceAdd, Bool.false_eq_true, if_false, if_true, true_and, and_true, Nat.reduceEqDiff, not_true_eq_false, not_false_eq_true, false_implies, true_implies, ite_true, ite_false]
        refine ⟨fun h2 => ?_, fun h2 => ?_⟩
        · have e : b = n + 1 := by omega
          subst e
          refine ih ha1 l _ hl ?_
          rw [← he, show (a + 1) * (n + 1) = a * (n + 1) + (n + 1) by rw [Nat.add_mul, Nat.one_mul]]
        · have hb1 : b < n + 1 := by omega
          have dm := zdm (a := a) hb1
          refine qBI.fn (m_quarrelOf σ (by omega)) (by decide) ?_
          rw [zMq2 h hq]
          refine qBI.fn (m_isRest σ (by omega) (by omega) (by omega) (by omega)) (by decide) ?_
          have hf : (n + 1) * (n + 1) - (a * (n + 1) + b) = ((n + 1) * (n + 1) - (a * (n + 1) + (b + 1))) + 1 := by omega
          have ep : zrp (C 8 q) n (a * (n + 1) + b) = zrest (C 8 q) a b n := by unfold zrp; rw [dm.1, dm.2]
          rw [hf] at he
          simp only [zseek, ep] at he
          simp (disch := omega) only [nI_leI, nI_ltI, nI_eq, nI_cl, qin_eq, nI_add, nI_mul, qb_z, qb_t, qb_f, nI_ne0', Nat.reduceAdd, Bool.false_eq_true, if_false, if_true, true_and, and_true, Nat.reduceEqDiff, not_true_eq_false, not_false_eq_true, false_implies, true_implies, ite_true, ite_false]
          refine ⟨fun h3 => ?_, fun h3 => ?_⟩
          rotate_left
          · rw [if_neg (by rw [h3]; decide)] at he
            exact ih2 hb1 l hl (by rw [← Nat.add_assoc]; exact he)
          · rw [if_pos (by simpa using h3)] at he
            refine ⟨fun h4 => ?_, fun h4 => ?_⟩
            · rw [if_neg h4] at he
              have e9 : nI l + iI (-1) = nI (l - 1) := by
                rw [iI_nat, iI_nat, iI_add]
                congr 1
                omega
              rw [e9]
              exact ih2 hb1 (l - 1) (by omega) (by rw [← Nat.add_assoc]; exact he)
            · rw [if_pos h4] at he
              rw [← he]
              simp only [dm.1, dm.2]
