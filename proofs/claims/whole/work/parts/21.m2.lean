/-! the reference: what is done in a minute -/
theorem zand2 {w : Nat} (h : w ≤ 3) : (w &&& 2 = 2) = (w / 2 % 2 = 1) := by
  have : ∀ w, w ≤ 3 → ((w &&& 2 = 2) ↔ (w / 2 % 2 = 1)) := by decide
  exact propext (this w h)
set_option maxRecDepth 20000 in
theorem m_ends {σ : qSg} {C : zC} (h : zM σ 0 C) (hw : zW C) {q w : Nat} (hq : q < C 0 1) (hl : w ≤ 3) : qCV 3 279 [qr 139, qi (nI q), qi (nI w)] σ (fun σ' => zM σ' 0 (zend C q w) ∧ zF zPc σ σ') := by
  obtain ⟨wb, wq, ww1, ww2, wh1, wh2, wo, wm, wB, wQ⟩ := id hw
  have g := wQ q hq
  refine qCV.of [some (qr 139), some (qi (nI q)), some (qi (nI w))] ok_279 (Nat.le_of_ble_eq_true rfl) rfl ?_
  have half : ∀ (σ1 : qSg) (C1 : zC), zM σ1 0 C1 → zW C1 → C1 7 q = C 7 q → C1 0 0 = C 0 0 → C1 0 1 = C 0 1 → zF zPc σ σ1 → zend C q w = (if w / 2 % 2 = 1 then zyl1 C1 (C1 7 q) else C1) → qV 279 3 (.inr (.inr (fun σ' => zM σ' 0 (zend C q w) ∧ zF zPc σ σ'))) 39 [some (qr 139), some (qi (nI q)), some (qi (nI w))] [] σ1 := by
    intro σ1 C1 a1 w1 e7 e0 e1 f1 he
    refine qV.go 30 [9999] ok_279 ?_
    simp only [qW_nop, qW_iconst, qW_iloadn, qW_aloadn, qW_iadd, qW_iand, qW_dup2, qW_icne, qW_getf, qW_iald, qW_iast, qW_vret, qW_cs1_0, qW_cv3_0, Nat.reduceAdd, Nat.reduceMul, Nat.reduceBEq, Nat.reduceEqDiff, Nat.reduceLT, Nat.reduceLeDiff, Nat.zero_le, nI_add, nI_mul, nI_cl, qin_eq, qofI, qlg_0, qlg_s, qls_i0, qls_r0, qls_l0, qls_1, qls_2, qkl_i, qkl_r, qkl_l, qkl_n, qIsI_i, qIsL_l, qIsR_r, qint_i, qil_i, qil_r, qil_l, qf4_0, qf4_1, qf4_2, qf4_3, qf2_0, qf2_1, qcs_n, qcs_i, qcs_r, qcs_l, qst_n, qst_c, qJ_0, qJ_st, qJ_go, qfl_I, qfl_Z, qfl_L, qfl_R, qrI_i, qrL_l, qrV_v, qRcv_0, qRcv_s, eq_self, true_and, and_true, true_or, or_true, false_and, and_false, false_or, or_false, ite_true, if_true, if_false, Bool.true_or, Bool.false_or, Bool.or_false, beq_self_eq_true, Bool.false_eq_true, bX12_ends_0, bX12_ends_39, bX12_ends_66, kX12_ends_0, kX12_ends_39, kX12_ends_66, qK_139, qR_139_0, qK_140, qR_139_1, qK_141, qR_139_5, qK_142, qR_139_6, qK_143, qR_139_7, qK_144, qR_139_8, qK_145, qR_139_9, qK_146, qR_139_21, qK_147, qR_139_25, qK_148, qR_139_30, qK_149, qR_139_31, qK_150, qR_139_33, qK_151, qR_139_34, qK_152, qR_139_35, qK_153, qR_139_36, qK_154, qR_139_39, qK_155, qR_139_40, qK_156, qR_139_41, qK_157]
    rw [nI_and]
    have hw2 : w &&& 2 ≤ 3 := Nat.le_trans Nat.and_le_left hl
    simp (disch := omega) only [nI_leI, nI_ltI, nI_eq, nI_cl, qin_eq, nI_add, nI_mul, qb_z, qb_t, qb_f, nI_ne0', Nat.reduceAdd, Bool.false_eq_true, if_false, if_true, true_and, and_true, Nat.reduceEqDiff, not_true_eq_false, not_false_eq_true, false_implies, true_implies, ite_true, ite_false]
    rw [zand2 hl]
    refine ⟨fun h1 => ?_, fun h1 => ?_⟩
    · rw [if_neg h1] at he
      exact ⟨he ▸ a1, f1⟩
    · rw [if_pos h1] at he
      refine qBI.fn (m_quarrelOf σ1 (by omega)) (by decide) ?_
      rw [zMq1 a1 (by omega)]
      refine qBI.fn (m_boyRow σ1 _) (by decide) ?_
      have hb : C1 7 q < C1 0 0 := by omega
      simp only [nI_add, nI_mul]
      simp (disch := omega) only [nI_leI, nI_ltI, nI_eq, nI_cl, qin_eq, nI_add, nI_mul, qb_z, qb_t, qb_f, nI_ne0', Nat.reduceAdd, Bool.false_eq_true, if_false, if_true, true_and, and_true, Nat.reduceEqDiff, not_true_eq_false, not_false_eq_true, false_implies, true_implies, ite_true, ite_false]
      refine ⟨?_, ?_⟩
      · have := zM_wb a1 w1 (f := 4) (v := C1 5 (C1 7 q) + 1) hb (by decide)
        rw [he, zMb4 a1 hb, nI_add]
        exact this
      · exact f1.tr (zF.wi ⟨rfl, by omega⟩)
  refine qV.go 30 [39] ok_279 ?_
  simp only [qW_nop, qW_iconst, qW_iloadn, qW_aloadn, qW_iadd, qW_iand, qW_dup2, qW_icne, qW_getf, qW_iald, qW_iast, qW_vret, qW_cs1_0, qW_cv3_0, Nat.reduceAdd, Nat.reduceMul, Nat.reduceBEq, Nat.reduceEqDiff, Nat.reduceLT, Nat.reduceLeDiff, Nat.zero_le, nI_add, nI_mul, nI_cl, qin_eq, qofI, qlg_0, qlg_s, qls_i0, qls_r0, qls_l0, qls_1, qls_2, qkl_i, qkl_r, qkl_l, qkl_n, qIsI_i, qIsL_l, qIsR_r, qint_i, qil_i, qil_r, qil_l, qf4_0, qf4_1, qf4_2, qf4_3, qf2_0, qf2_1, qcs_n, qcs_i, qcs_r, qcs_l, qst_n, qst_c, qJ_0, qJ_st, qJ_go, qfl_I, qfl_Z, qfl_L, qfl_R, qrI_i, qrL_l, qrV_v, qRcv_0, qRcv_s, eq_self, true_and, and_true, true_or, or_true, false_and, and_false, false_or, or_false, ite_true, if_true, if_false, Bool.true_or, Bool.false_or, Bool.or_false, beq_self_eq_true, Bool.false_eq_true, bX12_ends_0, bX12_ends_39, bX12_ends_66, kX12_ends_0, kX12_ends_39, kX12_ends_66, qK_139, qR_139_0, qK_140, qR_139_1, qK_141, qR_139_5, qK_142, qR_139_6, qK_143, qR_139_7, qK_144, qR_139_8, qK_145, qR_139_9, qK_146, qR_139_21, qK_147, qR_139_25, qK_148, qR_139_30, qK_149, qR_139_31, qK_150, qR_139_33, qK_151, qR_139_34, qK_152, qR_139_35, qK_153, qR_139_36, qK_154, qR_139_39, qK_155, qR_139_40, qK_156, qR_139_41, qK_157]
  refine qBI.fn (m_quarrelRow σ _) (by decide) ?_
  have a1 : zM (qwi σ 140 (48 + 4 * q + 3) (nI w)) 0 (zu C 9 q w) := zM_wq h hw (f := 3) (v := w) hq (by decide)
  have f1 : zF zPc σ (qwi σ 140 (48 + 4 * q + 3) (nI w)) := zF.wi ⟨rfl, by omega⟩
  have w1 := zW_end1 (q := q) hw hl
  have e60 : zu C 9 q w 0 0 = C 0 0 := zu_ne (by omega)
  have e61 : zu C 9 q w 0 1 = C 0 1 := zu_ne (by omega)
  have e66 : zu C 9 q w 6 q = C 6 q := zu_ne (by omega)
  have e67 : zu C 9 q w 7 q = C 7 q := zu_ne (by omega)
  simp only [nI_add, nI_mul, nI_and, Nat.and_one_is_mod]
  simp (disch := omega) only [nI_leI, nI_ltI, nI_eq, nI_cl, qin_eq, nI_add, nI_mul, qb_z, qb_t, qb_f, nI_ne0', Nat.reduceAdd, Bool.false_eq_true, if_false, if_true, true_and, and_true, Nat.reduceEqDiff, not_true_eq_false, not_false_eq_true, false_implies, true_implies, ite_true, ite_false]
  refine ⟨fun h1 => ?_, fun h1 => ?_⟩
  · refine half _ _ a1 w1 e67 e60 e61 f1 ?_
    unfold zend
    try dsimp only
    rw [if_neg h1]
  · refine qBI.fn (m_quarrelOf _ (by omega)) (by decide) ?_
    rw [zMq0 a1 (by omega)]
    refine qBI.fn (m_boyRow _ _) (by decide) ?_
    have hb : zu C 9 q w 6 q < zu C 9 q w 0 0 := by omega
    simp only [nI_add, nI_mul]
    simp (disch := omega) only [nI_leI, nI_ltI, nI_eq, nI_cl, qin_eq, nI_add, nI_mul, qb_z, qb_t, qb_f, nI_ne0', Nat.reduceAdd, Bool.false_eq_true, if_false, if_true, true_and, and_true, Nat.reduceEqDiff, not_true_eq_false, not_false_eq_true, false_implies, true_implies, ite_true, ite_false]
    have a2 : zM (qwi (qwi σ 140 (48 + 4 * q + 3) (nI w)) 140 (8 + 5 * zu C 9 q w 6 q + 4) (nI (zu C 9 q w 5 (zu C 9 q w 6 q) + 1))) 0 (zyl1 (zu C 9 q w) (zu C 9 q w 6 q)) := zM_wb a1 w1 (f := 4) (v := zu C 9 q w 5 (zu C 9 q w 6 q) + 1) hb (by decide)
    rw [zMb4 a1 hb, nI_add]
    refine half _ _ a2 (zW_yl1 w1 _) ?_ ?_ ?_ (f1.tr (zF.wi ⟨rfl, by omega⟩)) ?_
    · unfold zyl1; rw [zu_ne (by omega)]; exact e67
    · unfold zyl1; rw [zu_ne (by omega)]; exact e60
    · unfold zyl1; rw [zu_ne (by omega)]; exact e61
    · unfold zend
      try dsimp only
      rw [if_pos h1]
set_option maxRecDepth 20000 in
theorem m_minuteGoes {σ : qSg} {C : zC} (h : zM σ 0 C) (hw : zW C) (hm : C 0 5 < 100000) : qCI 6 280 [qr 139] σ (fun r σ' => r = nI (zmin C).2.1 ∧ zM σ' 0 (zmin C).1 ∧ zF zPm σ σ' ∧ σ'.1 139 24 = nI (zmin C).2.2) := by
  obtain ⟨wb, wq, ww1, ww2, wh1, wh2, wo, wm, wB, wQ⟩ := id hw
  have hup := zups_lt hw
  refine qCI.of [some (qr 139), none, none, none, none, none, none] ok_280 (Nat.le_of_ble_eq_true rfl) rfl ?_
  refine qV.go 30 [14, 95] ok_280 ?_
  simp only [qW_nop, qW_iconst, qW_iloadn, qW_iload, qW_aloadn, qW_istoren, qW_istore, qW_iinc, qW_iadd, qW_ior, qW_ishl, qW_dup, qW_dup2, qW_iceq, qW_ifne, qW_iclt, qW_icge, qW_goto, qW_getf, qW_iald, qW_iast, qW_cv1_0, qW_cv2_0, qW_cv3_0, qW_cv3_2, qW_cv4_0, qW_iret0, qW_putf0, Nat.reduceAdd, Nat.reduceMul, Nat.reduceBEq, Nat.reduceEqDiff, Nat.reduceLT, Nat.reduceLeDiff, Nat.zero_le, nI_add, nI_mul, nI_cl, qin_eq, qofI, qlg_0, qlg_s, qls_i0, qls_r0, qls_l0, qls_1, qls_2, qkl_i, qkl_r, qkl_l, qkl_n, qIsI_i, qIsL_l, qIsR_r, qint_i, qil_i, qil_r, qil_l, qf4_0, qf4_1, qf4_2, qf4_3, qf2_0, qf2_1, qcs_n, qcs_i, qcs_r, qcs_l, qst_n, qst_c, qJ_0, qJ_st, qJ_go, qfl_I, qfl_Z, qfl_L, qfl_R, qrI_i, qrL_l, qrV_v, qRcv_0, qRcv_s, eq_self, true_and, and_true, true_or, or_true, false_and, and_false, false_or, or_false, ite_true, if_true, if_false, Bool.true_or, Bool.false_or, Bool.or_false, beq_self_eq_true, Bool.false_eq_true, bX12_minuteGoes_0, bX12_minuteGoes_14, bX12_minuteGoes_35, bX12_minuteGoes_72, bX12_minuteGoes_73, bX12_minuteGoes_95, bX12_minuteGoes_103, bX12_minuteGoes_122, bX12_minuteGoes_141, bX12_minuteGoes_151, bX12_minuteGoes_157, kX12_minuteGoes_0, kX12_minuteGoes_14, kX12_minuteGoes_35, kX12_minuteGoes_72, kX12_minuteGoes_73, kX12_minuteGoes_95, kX12_minuteGoes_103, kX12_minuteGoes_122, kX12_minuteGoes_141, kX12_minuteGoes_151, kX12_minuteGoes_157, qK_139, qR_139_0, qK_140, qR_139_1, qK_141, qR_139_5, qK_142, qR_139_6, qK_143, qR_139_7, qK_144, qR_139_8, qK_145, qR_139_9, qK_146, qR_139_21, qK_147, qR_139_25, qK_148, qR_139_30, qK_149, qR_139_31, qK_150, qR_139_33, qK_151, qR_139_34, qK_152, qR_139_35, qK_153, qR_139_36, qK_154, qR_139_39, qK_155, qR_139_40, qK_156, qR_139_41, qK_157]
  refine qBI.fn (m_areUp h hw) (by decide) ?_
  have loop := qdown (n := C 0 1) (P := fun q => ∀ (σ1 : qSg) (l4 l5 l6 : Option qPV), zM σ1 0 (zmf (zups C) C q).1 → zF zPm σ σ1 → σ1.1 139 24 = nI (zmf (zups C) C q).2.2 →
    qV 280 6 (.inl fun r σ' => r = nI (zmin C).2.1 ∧ zM σ' 0 (zmin C).1 ∧ zF zPm σ σ' ∧ σ'.1 139 24 = nI (zmin C).2.2) 14 [some (qr 139), some (qi (nI (zups C))), some (qi (nI (zmf (zups C) C q).2.1)), some (qi (nI q)), l4, l5, l6] [] σ1) (fun q hq ih => ?_)
  · refine loop 0 (Nat.zero_le _) _ _ _ _ (zM_wi h (by decide) hw) (zF.wi (Or.inr ⟨rfl, rfl⟩)) ?_
    rw [qwi_1, if_pos ⟨rfl, rfl⟩]
    rfl
  · intro σ1 l4 l5 l6 a1 f1 y1
    have hsucc : zmf (zups C) C (q + 1) = zms (zups C) (zmf (zups C) C q) q := rfl
    have hfin : q = C 0 1 → zmin C = (zu (zmf (zups C) C q).1 0 5 (C 0 5 + 1), (zmf (zups C) C q).2) := fun e => by rw [e]; rfl
    have w1 := zmf_W hw (zups C) q
    have e := fun f i h9 h5 => zmf_q C (zups C) f i h9 h5 q
    generalize zmf (zups C) C q = S at a1 y1 hsucc hfin w1 e ⊢
    have e00 := e 0 0 (by decide) (by decide)
    have e01 := e 0 1 (by decide) (by decide)
    have e05 := e 0 5 (by decide) (by decide)
    refine qV.go 30 [14, 95] ok_280 ?_
    simp only [qW_nop, qW_iconst, qW_iloadn, qW_iload, qW_aloadn, qW_istoren, qW_istore, qW_iinc, qW_iadd, qW_ior, qW_ishl, qW_dup, qW_dup2, qW_iceq, qW_ifne, qW_iclt, qW_icge, qW_goto, qW_getf, qW_iald, qW_iast, qW_cv1_0, qW_cv2_0, qW_cv3_0, qW_cv3_2, qW_cv4_0, qW_iret0, qW_putf0, Nat.reduceAdd, Nat.reduceMul, Nat.reduceBEq, Nat.reduceEqDiff, Nat.reduceLT, Nat.reduceLeDiff, Nat.zero_le, nI_add, nI_mul, nI_cl, qin_eq, qofI, qlg_0, qlg_s, qls_i0, qls_r0, qls_l0, qls_1, qls_2, qkl_i, qkl_r, qkl_l, qkl_n, qIsI_i, qIsL_l, qIsR_r, qint_i, qil_i, qil_r, qil_l, qf4_0, qf4_1, qf4_2, qf4_3, qf2_0, qf2_1, qcs_n, qcs_i, qcs_r, qcs_l, qst_n, qst_c, qJ_0, qJ_st, qJ_go, qfl_I, qfl_Z, qfl_L, qfl_R, qrI_i, qrL_l, qrV_v, qRcv_0, qRcv_s, eq_self, true_and, and_true, true_or, or_true, false_and, and_false, false_or, or_false, ite_true, if_true, if_false, Bool.true_or, Bool.false_or, Bool.or_false, beq_self_eq_true, Bool.false_eq_true, bX12_minuteGoes_0, bX12_minuteGoes_14, bX12_minuteGoes_35, bX12_minuteGoes_72, bX12_minuteGoes_73, bX12_minuteGoes_95, bX12_minuteGoes_103, bX12_minuteGoes_122, bX12_minuteGoes_141, bX12_minuteGoes_151, bX12_minuteGoes_157, kX12_minuteGoes_0, kX12_minuteGoes_14, kX12_minuteGoes_35, kX12_minuteGoes_72, kX12_minuteGoes_73, kX12_minuteGoes_95, kX12_minuteGoes_103, kX12_minuteGoes_122, kX12_minuteGoes_141, kX12_minuteGoes_151, kX12_minuteGoes_157, qK_139, qR_139_0, qK_140, qR_139_1, qK_141, qR_139_5, qK_142, qR_139_6, qK_143, qR_139_7, qK_144, qR_139_8, qK_145, qR_139_9, qK_146, qR_139_21, qK_147, qR_139_25, qK_148, qR_139_30, qK_149, qR_139_31, qK_150, qR_139_33, qK_151, qR_139_34, qK_152, qR_139_35, qK_153, qR_139_36, qK_154, qR_139_39, qK_155, qR_139_40, qK_156, qR_139_41, qK_157]
    rw [zM_s a1 1 (by decide), zM_s a1 5 (by decide)]
    simp (disch := omega) only [nI_leI, nI_ltI, nI_eq, nI_cl, qin_eq, nI_add, nI_mul, qb_z, qb_t, qb_f, nI_ne0', Nat.reduceAdd, Bool.false_eq_true, if_false, if_true, true_and, and_true, Nat.reduceEqDiff, not_true_eq_false, not_false_eq_true, false_implies, true_implies, ite_true, ite_false]
    refine ⟨fun h1 => ?_, fun h1 => ?_⟩
    · rw [hfin (by omega)]
      refine ⟨rfl, ?_, f1.tr (zF.wi (Or.inl ⟨rfl, by decide⟩)), ?_⟩
      · rw [e05]
        exact zM_ws a1 w1 (by decide) (by decide) (by decide)
      · rw [qwi_1, if_neg (by omega)]
        exact y1
    · have hq1 : q < S.1 0 1 := by omega
      have g := w1.2.2.2.2.2.2.2.2.2 q hq1
      have tail : ∀ w, w = zwho S.1 (zups C) q → zOpen S.1 q = true → qV 280 6 (.inl fun r σ' => r = nI (zmin C).2.1 ∧ zM σ' 0 (zmin C).1 ∧ zF zPm σ σ' ∧ σ'.1 139 24 = nI (zmin C).2.2) 95
          [some (qr 139), some (qi (nI (zups C))), some (qi (nI S.2.1)), some (qi (nI q)), some (qi (nI (S.1 6 q))), some (qi (nI (S.1 7 q))), some (qi (nI w))] [] σ1 := by
        intro w hww ho
        have hw3 := zwho_le S.1 (zups C) q
        rw [← hww] at hw3
        have fin : w ≠ 0 → ∀ y, y = zyy S.1 q w S.2.2 → ∀ σ2, zM σ2 0 S.1 → zF zPm σ σ2 → σ2.1 139 24 = nI y → qBV 6 279 [qr 139, qi (nI q), qi (nI w)] σ2 (fun σ' => qV 280 6 (.inl fun r σ' => r = nI (zmin C).2.1 ∧ zM σ' 0 (zmin C).1 ∧ zF zPm σ σ' ∧ σ'.1 139 24 = nI (zmin C).2.2) 14
            [some (qr 139), some (qi (nI (zups C))), some (qi (nI (S.2.1 + 1))), some (qi (nI (q + 1))), some (qi (nI (S.1 6 q))), some (qi (nI (S.1 7 q))), some (qi (nI w))] [] σ') := by
          intro hw0 y hy σ2 a2 f2 y2
          refine qBV.of (m_ends a2 w1 hq1 (by omega)) (by decide) (fun σ3 h3 => ?_)
          have e3 : zmf (zups C) C (q + 1) = (zend S.1 q w, S.2.1 + 1, y) := by
            rw [hsucc, zms, if_pos ⟨ho, by rw [← hww]; exact hw0⟩, ← hww, ← hy]
          have := ih (by omega) σ3 (some (qi (nI (S.1 6 q)))) (some (qi (nI (S.1 7 q)))) (some (qi (nI w)))
          rw [e3] at this
          refine this h3.1 (f2.tr (h3.2.wk fun a j hp => Or.inl hp)) ?_
          rw [h3.2.1 _ _ (by unfold zPc; omega)]
          exact y2
        refine qV.go 30 [14] ok_280 ?_
        simp only [qW_nop, qW_iconst, qW_iloadn, qW_iload, qW_aloadn, qW_istoren, qW_istore, qW_iinc, qW_iadd, qW_ior, qW_ishl, qW_dup, qW_dup2, qW_iceq, qW_ifne, qW_iclt, qW_icge, qW_goto, qW_getf, qW_iald, qW_iast, qW_cv1_0, qW_cv2_0, qW_cv3_0, qW_cv3_2, qW_cv4_0, qW_iret0, qW_putf0, Nat.reduceAdd, Nat.reduceMul, Nat.reduceBEq, Nat.reduceEqDiff, Nat.reduceLT, Nat.reduceLeDiff, Nat.zero_le, nI_add, nI_mul, nI_cl, qin_eq, qofI, qlg_0, qlg_s, qls_i0, qls_r0, qls_l0, qls_1, qls_2, qkl_i, qkl_r, qkl_l, qkl_n, qIsI_i, qIsL_l, qIsR_r, qint_i, qil_i, qil_r, qil_l, qf4_0, qf4_1, qf4_2, qf4_3, qf2_0, qf2_1, qcs_n, qcs_i, qcs_r, qcs_l, qst_n, qst_c, qJ_0, qJ_st, qJ_go, qfl_I, qfl_Z, qfl_L, qfl_R, qrI_i, qrL_l, qrV_v, qRcv_0, qRcv_s, eq_self, true_and, and_true, true_or, or_true, false_and, and_false, false_or, or_false, ite_true, if_true, if_false, Bool.true_or, Bool.false_or, Bool.or_false, beq_self_eq_true, Bool.false_eq_true, bX12_minuteGoes_0, bX12_minuteGoes_14, bX12_minuteGoes_35, bX12_minuteGoes_72, bX12_minuteGoes_73, bX12_minuteGoes_95, bX12_minuteGoes_103, bX12_minuteGoes_122, bX12_minuteGoes_141, bX12_minuteGoes_151, bX12_minuteGoes_157, kX12_minuteGoes_0, kX12_minuteGoes_14, kX12_minuteGoes_35, kX12_minuteGoes_72, kX12_minuteGoes_73, kX12_minuteGoes_95, kX12_minuteGoes_103, kX12_minuteGoes_122, kX12_minuteGoes_141, kX12_minuteGoes_151, kX12_minuteGoes_157, qK_139, qR_139_0, qK_140, qR_139_1, qK_141, qR_139_5, qK_142, qR_139_6, qK_143, qR_139_7, qK_144, qR_139_8, qK_145, qR_139_9, qK_146, qR_139_21, qK_147, qR_139_25, qK_148, qR_139_30, qK_149, qR_139_31, qK_150, qR_139_33, qK_151, qR_139_34, qK_152, qR_139_35, qK_153, qR_139_36, qK_154, qR_139_39, qK_155, qR_139_40, qK_156, qR_139_41, qK_157]
        simp only [qwi_1, and_self, if_true]
        rw [y1, qshl1 (by omega), qshl1 (by omega)]
        simp only [nI_or]
        rcases (show w = 0 ∨ w = 1 ∨ w = 2 ∨ w = 3 by omega) with rfl | rfl | rfl | rfl
        · simp (disch := omega) only [nI_leI, nI_ltI, nI_eq, nI_cl, qin_eq, nI_add, nI_mul, qb_z, qb_t, qb_f, nI_ne0', Nat.reduceAdd, Bool.false_eq_true, if_false, if_true, true_and, and_true, Nat.reduceEqDiff, not_true_eq_false, not_false_eq_true, false_implies, true_implies, ite_true, ite_false]
          have e3 : zmf (zups C) C (q + 1) = S := by rw [hsucc, zms, if_neg (fun hh => hh.2 hww.symm)]
          have := ih (by omega) σ1 (some (qi (nI (S.1 6 q)))) (some (qi (nI (S.1 7 q)))) (some (qi (nI 0)))
          rw [e3] at this
          exact this a1 f1 y1
        · simp (disch := omega) only [nI_leI, nI_ltI, nI_eq, nI_cl, qin_eq, nI_add, nI_mul, qb_z, qb_t, qb_f, nI_ne0', Nat.reduceAdd, Bool.false_eq_true, if_false, if_true, true_and, and_true, Nat.reduceEqDiff, not_true_eq_false, not_false_eq_true, false_implies, true_implies, ite_true, ite_false]
          refine fin (by decide) _ rfl _ (zM_wi a1 (by decide) w1) (f1.tr (zF.wi (Or.inr ⟨rfl, rfl⟩))) ?_
          rw [qwi_1, if_pos ⟨rfl, rfl⟩]
          rfl
        · simp (disch := omega) only [nI_leI, nI_ltI, nI_eq, nI_cl, qin_eq, nI_add, nI_mul, qb_z, qb_t, qb_f, nI_ne0', Nat.reduceAdd, Bool.false_eq_true, if_false, if_true, true_and, and_true, Nat.reduceEqDiff, not_true_eq_false, not_false_eq_true, false_implies, true_implies, ite_true, ite_false]
          refine fin (by decide) _ rfl _ (zM_wi a1 (by decide) w1) (f1.tr (zF.wi (Or.inr ⟨rfl, rfl⟩))) ?_
          rw [qwi_1, if_pos ⟨rfl, rfl⟩]
          rfl
        · simp (disch := omega) only [nI_leI, nI_ltI, nI_eq, nI_cl, qin_eq, nI_add, nI_mul, qb_z, qb_t, qb_f, nI_ne0', Nat.reduceAdd, Bool.false_eq_true, if_false, if_true, true_and, and_true, Nat.reduceEqDiff, not_true_eq_false, not_false_eq_true, false_implies, true_implies, ite_true, ite_false]
          refine fin (by decide) _ rfl _ (zM_wi (zM_wi a1 (by decide) w1) (by decide) w1) ((f1.tr (zF.wi (Or.inr ⟨rfl, rfl⟩))).tr (zF.wi (Or.inr ⟨rfl, rfl⟩))) ?_
          rw [qwi_1, if_pos ⟨rfl, rfl⟩]
          rfl
      refine qBI.fn (m_isOpen a1 w1 hq1) (by decide) ?_
      simp (disch := omega) only [nI_leI, nI_ltI, nI_eq, nI_cl, qin_eq, nI_add, nI_mul, qb_z, qb_t, qb_f, nI_ne0', Nat.reduceAdd, Bool.false_eq_true, if_false, if_true, true_and, and_true, Nat.reduceEqDiff, not_true_eq_false, not_false_eq_true, false_implies, true_implies, ite_true, ite_false]
      refine ⟨fun h2 => ?_, fun h2 => ?_⟩
      · have h2' : zOpen S.1 q = true := by simpa using h2
        refine qBI.fn (m_quarrelOf σ1 (by omega)) (by decide) (qBI.fn (m_quarrelOf σ1 (by omega)) (by decide) ?_)
        rw [zMq0 a1 hq1, zMq1 a1 hq1]
        refine qBI.fn (m_dueOf a1 w1 (by omega) hq1 (by omega)) (by decide) ?_
        have b1 := zdue_bd w1 (b := S.1 6 q) (q := q) (up := zups C) (by omega) hq1
        have b2 := zdue_bd w1 (b := S.1 7 q) (q := q) (up := zups C) (by omega) hq1
        have c1 : (nI (S.1 0 5) < iI (zdue S.1 (S.1 6 q) q (zups C))) = ¬ (zdue S.1 (S.1 6 q) q (zups C) ≤ S.1 0 5) := by
          rw [qlt, nI_t (by omega), iI_toInt (by omega) (by omega)]; exact propext (by omega)
        have c2 : (nI (S.1 0 5) < iI (zdue S.1 (S.1 7 q) q (zups C))) = ¬ (zdue S.1 (S.1 7 q) q (zups C) ≤ S.1 0 5) := by
          rw [qlt, nI_t (by omega), iI_toInt (by omega) (by omega)]; exact propext (by omega)
        rw [zM_s a1 5 (by decide), c1]
        refine ⟨fun d1 => ?_, fun d1 => ?_⟩
        · refine qBI.fn (m_dueOf a1 w1 (by omega) hq1 (by omega)) (by decide) ?_
          rw [c2]
          refine ⟨fun d2 => ?_, fun d2 => ?_⟩
          · exact tail _ (by unfold zwho; rw [if_neg d1, if_neg d2]) h2'
          · exact tail _ (by unfold zwho; rw [if_neg d1, if_pos (by simpa using d2)]) h2'
        · refine qBI.fn (m_dueOf a1 w1 (by omega) hq1 (by omega)) (by decide) ?_
          rw [c2]
          refine ⟨fun d2 => ?_, fun d2 => ?_⟩
          · exact tail _ (by unfold zwho; rw [if_pos (by simpa using d1), if_neg d2]) h2'
          · exact tail _ (by unfold zwho; rw [if_pos (by simpa using d1), if_pos (by simpa using d2)]) h2'
      · have e3 : zmf (zups C) C (q + 1) = S := by rw [hsucc, zms, if_neg (fun hh => by rw [h2] at hh; simp at hh)]
        have := ih (by omega) σ1 l4 l5 l6
        rw [e3] at this
        exact this a1 f1 y1
