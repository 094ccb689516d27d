/-! the reference: weeks read -/
theorem zkI_eqk {y k : Nat} (hy : y ≤ 22) (hk : k < 22) : (zkI y = nI k) = (y = k) := zkI_eq hy hk
theorem zkI_ltk {y k : Nat} (hy : y ≤ 22) (hk : k < 22) : (zkI y < nI k) = (y < k ∨ y = 22) := by
  rw [qlt]
  unfold zkI
  apply propext
  by_cases h : y < 22
  · rw [if_pos h, nI_t (by omega), nI_t (by omega)]; omega
  · rw [if_neg h, iI_toInt (by decide) (by decide), nI_t (by omega)]; omega
theorem zkI_gtk {y k : Nat} (hy : y ≤ 22) (hk : k < 22) : (nI k < zkI y) = (k < y ∧ y < 22) := by
  rw [qlt]
  unfold zkI
  apply propext
  by_cases h : y < 22
  · rw [if_pos h, nI_t (by omega), nI_t (by omega)]; omega
  · rw [if_neg h, iI_toInt (by decide) (by decide), nI_t (by omega)]; omega
set_option maxRecDepth 20000 in
theorem m_weekStep {σ : qSg} {B : Nat → Nat} {N : Nat → List Nat} {C : zC} {n p : Nat} {s : zQ} (hB : zBW B n) (hp : p ≤ n) (hs : zQW (C 0 0) (C 0 2 * C 0 3) s) (h : zPd σ B n p) (hd : zDw σ s) (hC : zM σ 0 C) (hW : zW C) (hb : zMN σ 0 (C 0 0) N) (hN : zNW (C 0 0) N) :
    qCI 11 257 [qr 139] σ (zWfin B n (zpStep B N (C 0 0) (C 0 2 * C 0 3) s p) σ) := by
  have hy := tkY_le B p
  have s30 := hs.1
  have s2 := hs.2.1
  have s3 := hs.2.2.1
  obtain ⟨d1, d2, d3, -, -⟩ := id hd
  have bad : ∀ f, zpBegin B s p = some f → ∀ x, x = nI f → qBI 11 234 [qr 139, qi x] σ (fun r σ' => (r = nI 0 ∨ r = nI 1) ∧ zWfin B n (zpStep B N (C 0 0) (C 0 2 * C 0 3) s p) σ r σ') := by
    intro f hf x hx
    subst hx
    refine qBI.of (m_fails h) (by decide) (fun r σ2 g3 => ?_)
    obtain ⟨rfl, g4, g5⟩ := g3
    exact ⟨Or.inl rfl, zPo_l (by unfold zpStep; rw [hf]) rfl g4, zPw_y g5⟩
  refine qCI.of [some (qr 139), none, none, none, none, none] ok_257 (Nat.le_of_ble_eq_true rfl) rfl ?_
  refine qV.go 30 [42] ok_257 ?_
  simp only [qW_nop, qW_iconst, qW_bipush, qW_sipush, qW_ldcs, qW_iloadn, qW_iload, qW_aloadn, qW_istoren, qW_istore, qW_iinc, qW_iadd, qW_isub, qW_imul, qW_dup, qW_dup2, qW_ifeq, qW_iceq, qW_ifne, qW_icne, qW_iclt, qW_icge, qW_icgt, qW_goto, qW_getf, qW_iald, qW_iast, qW_cv1_2, qW_cv2_0, qW_cv3_0, qW_iret1, qW_putf0, Nat.reduceAdd, Nat.reduceMul, Nat.reduceBEq, Nat.reduceEqDiff, Nat.reduceLT, Nat.reduceLeDiff, Nat.zero_le, nI_add, nI_mul, nI_cl, qin_eq, qofI, qlg_0, qlg_s, qls_i0, qls_r0, qls_l0, qls_1, qls_2, qkl_i, qkl_r, qkl_l, qkl_n, qIsI_i, qIsL_l, qIsR_r, qint_i, qil_i, qil_r, qil_l, qf4_0, qf4_1, qf4_2, qf4_3, qf2_0, qf2_1, qcs_n, qcs_i, qcs_r, qcs_l, qst_n, qst_c, qJ_0, qJ_st, qJ_go, qfl_I, qfl_Z, qfl_L, qfl_R, qrI_i, qrL_l, qrV_v, qRcv_0, qRcv_s, eq_self, true_and, and_true, true_or, or_true, false_and, and_false, false_or, or_false, ite_true, if_true, if_false, Bool.true_or, Bool.false_or, Bool.or_false, beq_self_eq_true, Bool.false_eq_true, bX12_weekStep_0, bX12_weekStep_37, bX12_weekStep_41, bX12_weekStep_42, bX12_weekStep_61, bX12_weekStep_74, bX12_weekStep_80, bX12_weekStep_102, bX12_weekStep_122, bX12_weekStep_137, bX12_weekStep_138, bX12_weekStep_152, bX12_weekStep_175, bX12_weekStep_202, bX12_weekStep_227, bX12_weekStep_284, kX12_weekStep_0, kX12_weekStep_37, kX12_weekStep_41, kX12_weekStep_42, kX12_weekStep_61, kX12_weekStep_74, kX12_weekStep_80, kX12_weekStep_102, kX12_weekStep_122, kX12_weekStep_137, kX12_weekStep_138, kX12_weekStep_152, kX12_weekStep_175, kX12_weekStep_202, kX12_weekStep_227, kX12_weekStep_284, qK_139, qR_139_0, qK_140, qR_139_1, qK_141, qR_139_5, qK_142, qR_139_6, qK_143, qR_139_7, qK_144, qR_139_8, qK_145, qR_139_9, qK_146, qR_139_21, qK_147, qR_139_25, qK_148, qR_139_30, qK_149, qR_139_31, qK_150, qR_139_33, qK_151, qR_139_34, qK_152, qR_139_35, qK_153, qR_139_36, qK_154, qR_139_39, qK_155, qR_139_40, qK_156, qR_139_41, qK_157]
  refine qBI.fn (m_inWords hB hp h.1) (by decide) ?_
  rw [d1]
  rw [zkI_eq hy (by decide), zkI_eq hy (by decide)]
  simp only [nI_mul, nI_add]
  -- from 42 on
  have go : ∀ o : Bool, o = decide (tkY B p = 15 ∨ tkY B p = 16) → qV 257 11 (.inl (zWfin B n (zpStep B N (C 0 0) (C 0 2 * C 0 3) s p) σ)) 42 [some (qr 139), some (qi (zkI (tkY B p))), some (qi (nI s.2.1)), some (qi (nI (1912 + 6 * s.2.1))), none, none] [qi (qb o)] σ := by
    intro o ho
    have a74 : zpBegin B s p = some 2 → qV 257 11 (.inl (zWfin B n (zpStep B N (C 0 0) (C 0 2 * C 0 3) s p) σ)) 74 [some (qr 139), some (qi (zkI (tkY B p))), some (qi (nI s.2.1)), some (qi (nI (1912 + 6 * s.2.1))), some (qi (qb o)), none] [] σ := by
      intro hf
      refine qV.go 30 [9999] ok_257 ?_
      simp only [qW_nop, qW_iconst, qW_bipush, qW_sipush, qW_ldcs, qW_iloadn, qW_iload, qW_aloadn, qW_istoren, qW_istore, qW_iinc, qW_iadd, qW_isub, qW_imul, qW_dup, qW_dup2, qW_ifeq, qW_iceq, qW_ifne, qW_icne, qW_iclt, qW_icge, qW_icgt, qW_goto, qW_getf, qW_iald, qW_iast, qW_cv1_2, qW_cv2_0, qW_cv3_0, qW_iret1, qW_putf0, Nat.reduceAdd, Nat.reduceMul, Nat.reduceBEq, Nat.reduceEqDiff, Nat.reduceLT, Nat.reduceLeDiff, Nat.zero_le, nI_add, nI_mul, nI_cl, qin_eq, qofI, qlg_0, qlg_s, qls_i0, qls_r0, qls_l0, qls_1, qls_2, qkl_i, qkl_r, qkl_l, qkl_n, qIsI_i, qIsL_l, qIsR_r, qint_i, qil_i, qil_r, qil_l, qf4_0, qf4_1, qf4_2, qf4_3, qf2_0, qf2_1, qcs_n, qcs_i, qcs_r, qcs_l, qst_n, qst_c, qJ_0, qJ_st, qJ_go, qfl_I, qfl_Z, qfl_L, qfl_R, qrI_i, qrL_l, qrV_v, qRcv_0, qRcv_s, eq_self, true_and, and_true, true_or, or_true, false_and, and_false, false_or, or_false, ite_true, if_true, if_false, Bool.true_or, Bool.false_or, Bool.or_false, beq_self_eq_true, Bool.false_eq_true, bX12_weekStep_0, bX12_weekStep_37, bX12_weekStep_41, bX12_weekStep_42, bX12_weekStep_61, bX12_weekStep_74, bX12_weekStep_80, bX12_weekStep_102, bX12_weekStep_122, bX12_weekStep_137, bX12_weekStep_138, bX12_weekStep_152, bX12_weekStep_175, bX12_weekStep_202, bX12_weekStep_227, bX12_weekStep_284, kX12_weekStep_0, kX12_weekStep_37, kX12_weekStep_41, kX12_weekStep_42, kX12_weekStep_61, kX12_weekStep_74, kX12_weekStep_80, kX12_weekStep_102, kX12_weekStep_122, kX12_weekStep_137, kX12_weekStep_138, kX12_weekStep_152, kX12_weekStep_175, kX12_weekStep_202, kX12_weekStep_227, kX12_weekStep_284, qK_139, qR_139_0, qK_140, qR_139_1, qK_141, qR_139_5, qK_142, qR_139_6, qK_143, qR_139_7, qK_144, qR_139_8, qK_145, qR_139_9, qK_146, qR_139_21, qK_147, qR_139_25, qK_148, qR_139_30, qK_149, qR_139_31, qK_150, qR_139_33, qK_151, qR_139_34, qK_152, qR_139_35, qK_153, qR_139_36, qK_154, qR_139_39, qK_155, qR_139_40, qK_156, qR_139_41, qK_157]
      exact bad 2 hf _ rfl
    have a102 : (tkY B p = 3 ∨ (10 ≤ tkY B p ∧ tkY B p ≤ 18)) → ¬ (tkY B p = 17 ∧ s.2.2.2.1 = 0) → ¬ (tkY B p ≠ 17 ∧ s.2.2.1 = 30) → qV 257 11 (.inl (zWfin B n (zpStep B N (C 0 0) (C 0 2 * C 0 3) s p) σ)) 102 [some (qr 139), some (qi (zkI (tkY B p))), some (qi (nI s.2.1)), some (qi (nI (1912 + 6 * s.2.1))), some (qi (qb o)), none] [] σ := by
      intro c1 c2 c3
      have m122 : zpBegin B s p = none → qV 257 11 (.inl (zWfin B n (zpStep B N (C 0 0) (C 0 2 * C 0 3) s p) σ)) 122 [some (qr 139), some (qi (zkI (tkY B p))), some (qi (nI s.2.1)), some (qi (nI (1912 + 6 * s.2.1))), some (qi (qb o)), none] [] σ := by
        intro hg
        rw [zkI_k (by omega)]
        exact step_122 hB hp hs h hd hC hW hb hN hg ho
      refine qV.go 30 [122] ok_257 ?_
      simp only [qW_nop, qW_iconst, qW_bipush, qW_sipush, qW_ldcs, qW_iloadn, qW_iload, qW_aloadn, qW_istoren, qW_istore, qW_iinc, qW_iadd, qW_isub, qW_imul, qW_dup, qW_dup2, qW_ifeq, qW_iceq, qW_ifne, qW_icne, qW_iclt, qW_icge, qW_icgt, qW_goto, qW_getf, qW_iald, qW_iast, qW_cv1_2, qW_cv2_0, qW_cv3_0, qW_iret1, qW_putf0, Nat.reduceAdd, Nat.reduceMul, Nat.reduceBEq, Nat.reduceEqDiff, Nat.reduceLT, Nat.reduceLeDiff, Nat.zero_le, nI_add, nI_mul, nI_cl, qin_eq, qofI, qlg_0, qlg_s, qls_i0, qls_r0, qls_l0, qls_1, qls_2, qkl_i, qkl_r, qkl_l, qkl_n, qIsI_i, qIsL_l, qIsR_r, qint_i, qil_i, qil_r, qil_l, qf4_0, qf4_1, qf4_2, qf4_3, qf2_0, qf2_1, qcs_n, qcs_i, qcs_r, qcs_l, qst_n, qst_c, qJ_0, qJ_st, qJ_go, qfl_I, qfl_Z, qfl_L, qfl_R, qrI_i, qrL_l, qrV_v, qRcv_0, qRcv_s, eq_self, true_and, and_true, true_or, or_true, false_and, and_false, false_or, or_false, ite_true, if_true, if_false, Bool.true_or, Bool.false_or, Bool.or_false, beq_self_eq_true, Bool.false_eq_true, bX12_weekStep_0, bX12_weekStep_37, bX12_weekStep_41, bX12_weekStep_42, bX12_weekStep_61, bX12_weekStep_74, bX12_weekStep_80, bX12_weekStep_102, bX12_weekStep_122, bX12_weekStep_137, bX12_weekStep_138, bX12_weekStep_152, bX12_weekStep_175, bX12_weekStep_202, bX12_weekStep_227, bX12_weekStep_284, kX12_weekStep_0, kX12_weekStep_37, kX12_weekStep_41, kX12_weekStep_42, kX12_weekStep_61, kX12_weekStep_74, kX12_weekStep_80, kX12_weekStep_102, kX12_weekStep_122, kX12_weekStep_137, kX12_weekStep_138, kX12_weekStep_152, kX12_weekStep_175, kX12_weekStep_202, kX12_weekStep_227, kX12_weekStep_284, qK_139, qR_139_0, qK_140, qR_139_1, qK_141, qR_139_5, qK_142, qR_139_6, qK_143, qR_139_7, qK_144, qR_139_8, qK_145, qR_139_9, qK_146, qR_139_21, qK_147, qR_139_25, qK_148, qR_139_30, qK_149, qR_139_31, qK_150, qR_139_33, qK_151, qR_139_34, qK_152, qR_139_35, qK_153, qR_139_36, qK_154, qR_139_39, qK_155, qR_139_40, qK_156, qR_139_41, qK_157]
      rw [d2]
      simp (disch := omega) only [nI_leI, nI_ltI, nI_eq, nI_cl, qin_eq, nI_add, nI_mul, qb_z, qb_t, qb_f, nI_ne0', Nat.reduceAdd, Bool.false_eq_true, if_false, if_true, true_and, and_true, Nat.reduceEqDiff, not_true_eq_false, not_false_eq_true, false_implies, true_implies, ite_true, ite_false]
      have e0 : zpBegin B s p = if (tkY B p = 15 ∨ tkY B p = 16) ∧ s.2.2.2.1 = 3 then some 7 else none := by
        unfold zpBegin
        rw [if_neg (by omega), if_neg c3]
      refine ⟨fun g => ?_, fun g => ⟨fun g2 => ?_, fun g2 => ?_⟩⟩
      · refine m122 ?_
        rw [g] at ho
        have : ¬ (tkY B p = 15 ∨ tkY B p = 16) := of_decide_eq_false ho.symm
        rw [e0, if_neg (fun hh => this hh.1)]
      · refine m122 ?_
        rw [e0, if_neg (fun hh => g2 hh.2)]
      · refine bad 7 ?_ _ rfl
        have g' : o = true := by simpa using g
        rw [g'] at ho
        have : tkY B p = 15 ∨ tkY B p = 16 := of_decide_eq_true ho.symm
        rw [e0, if_pos ⟨this, g2⟩]
    have a80 : (tkY B p = 3 ∨ (10 ≤ tkY B p ∧ tkY B p ≤ 18)) → ¬ (tkY B p = 17 ∧ s.2.2.2.1 = 0) → qV 257 11 (.inl (zWfin B n (zpStep B N (C 0 0) (C 0 2 * C 0 3) s p) σ)) 80 [some (qr 139), some (qi (zkI (tkY B p))), some (qi (nI s.2.1)), some (qi (nI (1912 + 6 * s.2.1))), some (qi (qb o)), none] [] σ := by
      intro c1 c2
      refine qV.go 30 [102] ok_257 ?_
      simp only [qW_nop, qW_iconst, qW_bipush, qW_sipush, qW_ldcs, qW_iloadn, qW_iload, qW_aloadn, qW_istoren, qW_istore, qW_iinc, qW_iadd, qW_isub, qW_imul, qW_dup, qW_dup2, qW_ifeq, qW_iceq, qW_ifne, qW_icne, qW_iclt, qW_icge, qW_icgt, qW_goto, qW_getf, qW_iald, qW_iast, qW_cv1_2, qW_cv2_0, qW_cv3_0, qW_iret1, qW_putf0, Nat.reduceAdd, Nat.reduceMul, Nat.reduceBEq, Nat.reduceEqDiff, Nat.reduceLT, Nat.reduceLeDiff, Nat.zero_le, nI_add, nI_mul, nI_cl, qin_eq, qofI, qlg_0, qlg_s, qls_i0, qls_r0, qls_l0, qls_1, qls_2, qkl_i, qkl_r, qkl_l, qkl_n, qIsI_i, qIsL_l, qIsR_r, qint_i, qil_i, qil_r, qil_l, qf4_0, qf4_1, qf4_2, qf4_3, qf2_0, qf2_1, qcs_n, qcs_i, qcs_r, qcs_l, qst_n, qst_c, qJ_0, qJ_st, qJ_go, qfl_I, qfl_Z, qfl_L, qfl_R, qrI_i, qrL_l, qrV_v, qRcv_0, qRcv_s, eq_self, true_and, and_true, true_or, or_true, false_and, and_false, false_or, or_false, ite_true, if_true, if_false, Bool.true_or, Bool.false_or, Bool.or_false, beq_self_eq_true, Bool.false_eq_true, bX12_weekStep_0, bX12_weekStep_37, bX12_weekStep_41, bX12_weekStep_42, bX12_weekStep_61, bX12_weekStep_74, bX12_weekStep_80, bX12_weekStep_102, bX12_weekStep_122, bX12_weekStep_137, bX12_weekStep_138, bX12_weekStep_152, bX12_weekStep_175, bX12_weekStep_202, bX12_weekStep_227, bX12_weekStep_284, kX12_weekStep_0, kX12_weekStep_37, kX12_weekStep_41, kX12_weekStep_42, kX12_weekStep_61, kX12_weekStep_74, kX12_weekStep_80, kX12_weekStep_102, kX12_weekStep_122, kX12_weekStep_137, kX12_weekStep_138, kX12_weekStep_152, kX12_weekStep_175, kX12_weekStep_202, kX12_weekStep_227, kX12_weekStep_284, qK_139, qR_139_0, qK_140, qR_139_1, qK_141, qR_139_5, qK_142, qR_139_6, qK_143, qR_139_7, qK_144, qR_139_8, qK_145, qR_139_9, qK_146, qR_139_21, qK_147, qR_139_25, qK_148, qR_139_30, qK_149, qR_139_31, qK_150, qR_139_33, qK_151, qR_139_34, qK_152, qR_139_35, qK_153, qR_139_36, qK_154, qR_139_39, qK_155, qR_139_40, qK_156, qR_139_41, qK_157]
      rw [d3, zkI_eq hy (by decide)]
      simp (disch := omega) only [nI_leI, nI_ltI, nI_eq, nI_cl, qin_eq, nI_add, nI_mul, qb_z, qb_t, qb_f, nI_ne0', Nat.reduceAdd, Bool.false_eq_true, if_false, if_true, true_and, and_true, Nat.reduceEqDiff, not_true_eq_false, not_false_eq_true, false_implies, true_implies, ite_true, ite_false]
      refine ⟨fun g => a102 c1 c2 (fun hh => hh.1 g), fun g => ⟨fun g2 => a102 c1 c2 (fun hh => g2 hh.2), fun g2 => bad 6 ?_ _ rfl⟩⟩
      unfold zpBegin
      rw [if_neg (by omega), if_pos ⟨g, g2⟩]
    have a61 : (tkY B p = 3 ∨ (10 ≤ tkY B p ∧ tkY B p ≤ 18)) → qV 257 11 (.inl (zWfin B n (zpStep B N (C 0 0) (C 0 2 * C 0 3) s p) σ)) 61 [some (qr 139), some (qi (zkI (tkY B p))), some (qi (nI s.2.1)), some (qi (nI (1912 + 6 * s.2.1))), some (qi (qb o)), none] [] σ := by
      intro c1
      refine qV.go 30 [74, 80] ok_257 ?_
      simp only [qW_nop, qW_iconst, qW_bipush, qW_sipush, qW_ldcs, qW_iloadn, qW_iload, qW_aloadn, qW_istoren, qW_istore, qW_iinc, qW_iadd, qW_isub, qW_imul, qW_dup, qW_dup2, qW_ifeq, qW_iceq, qW_ifne, qW_icne, qW_iclt, qW_icge, qW_icgt, qW_goto, qW_getf, qW_iald, qW_iast, qW_cv1_2, qW_cv2_0, qW_cv3_0, qW_iret1, qW_putf0, Nat.reduceAdd, Nat.reduceMul, Nat.reduceBEq, Nat.reduceEqDiff, Nat.reduceLT, Nat.reduceLeDiff, Nat.zero_le, nI_add, nI_mul, nI_cl, qin_eq, qofI, qlg_0, qlg_s, qls_i0, qls_r0, qls_l0, qls_1, qls_2, qkl_i, qkl_r, qkl_l, qkl_n, qIsI_i, qIsL_l, qIsR_r, qint_i, qil_i, qil_r, qil_l, qf4_0, qf4_1, qf4_2, qf4_3, qf2_0, qf2_1, qcs_n, qcs_i, qcs_r, qcs_l, qst_n, qst_c, qJ_0, qJ_st, qJ_go, qfl_I, qfl_Z, qfl_L, qfl_R, qrI_i, qrL_l, qrV_v, qRcv_0, qRcv_s, eq_self, true_and, and_true, true_or, or_true, false_and, and_false, false_or, or_false, ite_true, if_true, if_false, Bool.true_or, Bool.false_or, Bool.or_false, beq_self_eq_true, Bool.false_eq_true, bX12_weekStep_0, bX12_weekStep_37, bX12_weekStep_41, bX12_weekStep_42, bX12_weekStep_61, bX12_weekStep_74, bX12_weekStep_80, bX12_weekStep_102, bX12_weekStep_122, bX12_weekStep_137, bX12_weekStep_138, bX12_weekStep_152, bX12_weekStep_175, bX12_weekStep_202, bX12_weekStep_227, bX12_weekStep_284, kX12_weekStep_0, kX12_weekStep_37, kX12_weekStep_41, kX12_weekStep_42, kX12_weekStep_61, kX12_weekStep_74, kX12_weekStep_80, kX12_weekStep_102, kX12_weekStep_122, kX12_weekStep_137, kX12_weekStep_138, kX12_weekStep_152, kX12_weekStep_175, kX12_weekStep_202, kX12_weekStep_227, kX12_weekStep_284, qK_139, qR_139_0, qK_140, qR_139_1, qK_141, qR_139_5, qK_142, qR_139_6, qK_143, qR_139_7, qK_144, qR_139_8, qK_145, qR_139_9, qK_146, qR_139_21, qK_147, qR_139_25, qK_148, qR_139_30, qK_149, qR_139_31, qK_150, qR_139_33, qK_151, qR_139_34, qK_152, qR_139_35, qK_153, qR_139_36, qK_154, qR_139_39, qK_155, qR_139_40, qK_156, qR_139_41, qK_157]
      rw [d2, zkI_eq hy (by decide)]
      simp (disch := omega) only [nI_leI, nI_ltI, nI_eq, nI_cl, qin_eq, nI_add, nI_mul, qb_z, qb_t, qb_f, nI_ne0', Nat.reduceAdd, Bool.false_eq_true, if_false, if_true, true_and, and_true, Nat.reduceEqDiff, not_true_eq_false, not_false_eq_true, false_implies, true_implies, ite_true, ite_false]
      refine ⟨fun g => a80 c1 (fun hh => g hh.1), fun g => ⟨fun g2 => a80 c1 (fun hh => g2 hh.2), fun g2 => a74 ?_⟩⟩
      unfold zpBegin
      rw [if_pos (Or.inr ⟨g, g2⟩)]
    refine qV.go 30 [61, 74] ok_257 ?_
    simp only [qW_nop, qW_iconst, qW_bipush, qW_sipush, qW_ldcs, qW_iloadn, qW_iload, qW_aloadn, qW_istoren, qW_istore, qW_iinc, qW_iadd, qW_isub, qW_imul, qW_dup, qW_dup2, qW_ifeq, qW_iceq, qW_ifne, qW_icne, qW_iclt, qW_icge, qW_icgt, qW_goto, qW_getf, qW_iald, qW_iast, qW_cv1_2, qW_cv2_0, qW_cv3_0, qW_iret1, qW_putf0, Nat.reduceAdd, Nat.reduceMul, Nat.reduceBEq, Nat.reduceEqDiff, Nat.reduceLT, Nat.reduceLeDiff, Nat.zero_le, nI_add, nI_mul, nI_cl, qin_eq, qofI, qlg_0, qlg_s, qls_i0, qls_r0, qls_l0, qls_1, qls_2, qkl_i, qkl_r, qkl_l, qkl_n, qIsI_i, qIsL_l, qIsR_r, qint_i, qil_i, qil_r, qil_l, qf4_0, qf4_1, qf4_2, qf4_3, qf2_0, qf2_1, qcs_n, qcs_i, qcs_r, qcs_l, qst_n, qst_c, qJ_0, qJ_st, qJ_go, qfl_I, qfl_Z, qfl_L, qfl_R, qrI_i, qrL_l, qrV_v, qRcv_0, qRcv_s, eq_self, true_and, and_true, true_or, or_true, false_and, and_false, false_or, or_false, ite_true, if_true, if_false, Bool.true_or, Bool.false_or, Bool.or_false, beq_self_eq_true, Bool.false_eq_true, bX12_weekStep_0, bX12_weekStep_37, bX12_weekStep_41, bX12_weekStep_42, bX12_weekStep_61, bX12_weekStep_74, bX12_weekStep_80, bX12_weekStep_102, bX12_weekStep_122, bX12_weekStep_137, bX12_weekStep_138, bX12_weekStep_152, bX12_weekStep_175, bX12_weekStep_202, bX12_weekStep_227, bX12_weekStep_284, kX12_weekStep_0, kX12_weekStep_37, kX12_weekStep_41, kX12_weekStep_42, kX12_weekStep_61, kX12_weekStep_74, kX12_weekStep_80, kX12_weekStep_102, kX12_weekStep_122, kX12_weekStep_137, kX12_weekStep_138, kX12_weekStep_152, kX12_weekStep_175, kX12_weekStep_202, kX12_weekStep_227, kX12_weekStep_284, qK_139, qR_139_0, qK_140, qR_139_1, qK_141, qR_139_5, qK_142, qR_139_6, qK_143, qR_139_7, qK_144, qR_139_8, qK_145, qR_139_9, qK_146, qR_139_21, qK_147, qR_139_25, qK_148, qR_139_30, qK_149, qR_139_31, qK_150, qR_139_33, qK_151, qR_139_34, qK_152, qR_139_35, qK_153, qR_139_36, qK_154, qR_139_39, qK_155, qR_139_40, qK_156, qR_139_41, qK_157]
    rw [zkI_eq hy (by decide), zkI_ltk hy (by decide), zkI_gtk hy (by decide)]
    refine ⟨fun g => a61 (Or.inl g), fun g => ⟨fun g2 => a74 ?_, fun g2 => ⟨fun g3 => a74 ?_, fun g3 => a61 (by omega)⟩⟩⟩
    · unfold zpBegin
      rw [if_pos (Or.inl ⟨g, by omega⟩)]
    · unfold zpBegin
      rw [if_pos (Or.inl ⟨g, by omega⟩)]
  have g1 : ∀ e, (tkY B p = 15 ∨ tkY B p = 16) = e → true = true := fun _ _ => rfl
  refine ⟨fun g => ?_, fun g => ⟨fun g2 => ?_, fun g2 => ?_⟩⟩
  · exact go true (by simp [g])
  · exact go false (by simp [g, g2])
  · exact go true (by simp [g2])
/-- what a call of weeks gives -/
def yWeeks (A : zA) (x : Int32) : Int32 × zA :=
  if zbeg (aP A) x 300 = false then yNo A 1
  else match zrdW (ztx (aP A).2 x.toInt.toNat) A.1.2.1 (aC A 0 0) (aC A 0 2 * aC A 0 3) with
    | .inl e => (iI (-1), sS (sE (sP (sK A A.1) (0, (aP A).2)) (nI e.1, nI e.2)) 9)
    | .inr s => (nI s.2.2.1, sS (sE (sP (sK A (A.1.1, A.1.2.1, some (s.1, s.2.1))) (0, (aP A).2)) (nI 0, iI (-1))) 0)
