/-! the reference: sets of quarrels that have nothing to do with each other; who is up when; whom to have yield; where to pitch -/
def zun (C : zC) (s : Nat) : Nat → Nat
  | 0 => 0
  | q + 1 => if s.testBit q then zun C s q ||| zboth C q else zun C s q
def zaf (C : zC) : Nat → Nat
  | 0 => 0
  | s + 1 => if zsub s (zopens C) = true ∧ zpop (zaf C s) < zpop s ∧ zpop (zun C s (C 0 1)) = 2 * zpop s then s else zaf C s
def zapart (C : zC) : Nat := zaf C (2 ^ C 0 1)
theorem zun_lt {C : zC} (hw : zW C) (s : Nat) : ∀ q, q ≤ C 0 1 → zun C s q < 256
  | 0, _ => by simp [zun]
  | q + 1, h => by
    have ih := zun_lt hw s q (by omega)
    simp only [zun]
    split
    · exact Nat.or_lt_two_pow (n := 8) ih (zboth_lt hw (by omega))
    · exact ih
theorem zaf_lt {C : zC} (hw : zW C) : ∀ s, s ≤ 2 ^ C 0 1 → zaf C s < 2 ^ C 0 1
  | 0, _ => Nat.two_pow_pos _
  | s + 1, h => by
    simp only [zaf]
    split
    · omega
    · exact zaf_lt hw s (by omega)
set_option maxRecDepth 20000 in
theorem m_apartOnes {σ : qSg} {C : zC} (h : zM σ 0 C) (hw : zW C) : qFI 5 325 [qr 139] σ (nI (zapart C)) := by
  obtain ⟨wb, wq, ww1, ww2, wh1, wh2, wo, wm, wB, wQ⟩ := id hw
  have hp := Nat.two_pow_pos (C 0 1)
  have hp2 := zpow_le2 hw
  refine qCI.of [some (qr 139), none, none, none, none] ok_325 (Nat.le_of_ble_eq_true rfl) rfl ?_
  refine qV.go 30 [4] ok_325 ?_
  simp only [qW_nop, qW_iconst, qW_iconstm, qW_iloadn, qW_iload, qW_aloadn, qW_istoren, qW_istore, qW_iinc, qW_imul, qW_iand, qW_ior, qW_ixor, qW_ishl, qW_ifeq, qW_ifne, qW_icne, qW_icge, qW_icgt, qW_goto, qW_getf, qW_iald, qW_cs1_0, qW_cv1_0, qW_cv2_0, qW_cv3_0, qW_iret0, Nat.reduceAdd, Nat.reduceMul, Nat.reduceBEq, Nat.reduceEqDiff, Nat.reduceLT, Nat.reduceLeDiff, Nat.zero_le, nI_add, nI_mul, nI_cl, qin_eq, qofI, qlg_0, qlg_s, qls_i0, qls_r0, qls_l0, qls_1, qls_2, qkl_i, qkl_r, qkl_l, qkl_n, qIsI_i, qIsL_l, qIsR_r, qint_i, qil_i, qil_r, qil_l, qf4_0, qf4_1, qf4_2, qf4_3, qf2_0, qf2_1, qcs_n, qcs_i, qcs_r, qcs_l, qst_n, qst_c, qJ_0, qJ_st, qJ_go, qfl_I, qfl_Z, qfl_L, qfl_R, qrI_i, qrL_l, qrV_v, qRcv_0, qRcv_s, eq_self, true_and, and_true, true_or, or_true, false_and, and_false, false_or, or_false, ite_true, if_true, if_false, Bool.true_or, Bool.false_or, Bool.or_false, beq_self_eq_true, Bool.false_eq_true, bX12_apartOnes_0, bX12_apartOnes_4, bX12_apartOnes_41, bX12_apartOnes_46, bX12_apartOnes_76, bX12_apartOnes_82, bX12_apartOnes_97, bX12_apartOnes_103, kX12_apartOnes_0, kX12_apartOnes_4, kX12_apartOnes_41, kX12_apartOnes_46, kX12_apartOnes_76, kX12_apartOnes_82, kX12_apartOnes_97, kX12_apartOnes_103, qK_139, qR_139_0, qK_140, qR_139_1, qK_141, qR_139_5, qK_142, qR_139_6, qK_143, qR_139_7, qK_144, qR_139_8, qK_145, qR_139_9, qK_146, qR_139_21, qK_147, qR_139_25, qK_148, qR_139_30, qK_149, qR_139_31, qK_150, qR_139_33, qK_151, qR_139_34, qK_152, qR_139_35, qK_153, qR_139_36, qK_154, qR_139_39, qK_155, qR_139_40, qK_156, qR_139_41, qK_157]
  have z1 : zaf C 1 = 0 := by
    show (if zsub 0 (zopens C) = true ∧ zpop (zaf C 0) < zpop 0 ∧ zpop (zun C 0 (C 0 1)) = 2 * zpop 0 then 0 else zaf C 0) = 0
    split <;> rfl
  have key := qdown (n := 2 ^ C 0 1) (P := fun s => ∀ l3 l4 : Option qPV, 1 ≤ s → qV 325 5 (.inl fun r σ' => r = nI (zapart C) ∧ σ' = σ) 4 [some (qr 139), some (qi (nI (zaf C s))), some (qi (nI s)), l3, l4] [] σ) (fun s hs ih => ?_)
  · have := key 1 hp none none (Nat.le_refl _)
    rw [z1] at this
    exact this
  · intro l3 l4 hs1
    have hl := zaf_lt hw s hs
    have hz := fun n (h : n < 2 ^ C 0 1) => zpop_le (n := n) (k := 10) (by omega)
    have b1 := hz _ hl
    have st : zaf C (s + 1) = if zsub s (zopens C) = true ∧ zpop (zaf C s) < zpop s ∧ zpop (zun C s (C 0 1)) = 2 * zpop s then s else zaf C s := rfl
    have hfin : s = 2 ^ C 0 1 → zapart C = zaf C s := fun e => by rw [e]; rfl
    generalize zaf C s = S at hl b1 st hfin ⊢
    refine qV.go 30 [4, 46] ok_325 ?_
    simp only [qW_nop, qW_iconst, qW_iconstm, qW_iloadn, qW_iload, qW_aloadn, qW_istoren, qW_istore, qW_iinc, qW_imul, qW_iand, qW_ior, qW_ixor, qW_ishl, qW_ifeq, qW_ifne, qW_icne, qW_icge, qW_icgt, qW_goto, qW_getf, qW_iald, qW_cs1_0, qW_cv1_0, qW_cv2_0, qW_cv3_0, qW_iret0, Nat.reduceAdd, Nat.reduceMul, Nat.reduceBEq, Nat.reduceEqDiff, Nat.reduceLT, Nat.reduceLeDiff, Nat.zero_le, nI_add, nI_mul, nI_cl, qin_eq, qofI, qlg_0, qlg_s, qls_i0, qls_r0, qls_l0, qls_1, qls_2, qkl_i, qkl_r, qkl_l, qkl_n, qIsI_i, qIsL_l, qIsR_r, qint_i, qil_i, qil_r, qil_l, qf4_0, qf4_1, qf4_2, qf4_3, qf2_0, qf2_1, qcs_n, qcs_i, qcs_r, qcs_l, qst_n, qst_c, qJ_0, qJ_st, qJ_go, qfl_I, qfl_Z, qfl_L, qfl_R, qrI_i, qrL_l, qrV_v, qRcv_0, qRcv_s, eq_self, true_and, and_true, true_or, or_true, false_and, and_false, false_or, or_false, ite_true, if_true, if_false, Bool.true_or, Bool.false_or, Bool.or_false, beq_self_eq_true, Bool.false_eq_true, bX12_apartOnes_0, bX12_apartOnes_4, bX12_apartOnes_41, bX12_apartOnes_46, bX12_apartOnes_76, bX12_apartOnes_82, bX12_apartOnes_97, bX12_apartOnes_103, kX12_apartOnes_0, kX12_apartOnes_4, kX12_apartOnes_41, kX12_apartOnes_46, kX12_apartOnes_76, kX12_apartOnes_82, kX12_apartOnes_97, kX12_apartOnes_103, qK_139, qR_139_0, qK_140, qR_139_1, qK_141, qR_139_5, qK_142, qR_139_6, qK_143, qR_139_7, qK_144, qR_139_8, qK_145, qR_139_9, qK_146, qR_139_21, qK_147, qR_139_25, qK_148, qR_139_30, qK_149, qR_139_31, qK_150, qR_139_33, qK_151, qR_139_34, qK_152, qR_139_35, qK_153, qR_139_36, qK_154, qR_139_39, qK_155, qR_139_40, qK_156, qR_139_41, qK_157]
    rw [zM_s h 1 (by decide), qshl1 (by omega)]
    simp (disch := omega) only [nI_leI, nI_ltI, nI_eq, nI_cl, qin_eq, nI_add, nI_mul, qb_z, qb_t, qb_f, nI_ne0', Nat.reduceAdd, Bool.false_eq_true, if_false, if_true, true_and, and_true, Nat.reduceEqDiff, not_true_eq_false, not_false_eq_true, false_implies, true_implies, ite_true, ite_false]
    refine ⟨fun h1 => ?_, fun h1 => ?_⟩
    · rw [hfin (by omega)]
    · have b2 := hz s (by omega)
      have hno := zopens_lt hw
      refine qBI.fn (m_openOnes h hw) (by decide) ?_
      simp only [nI_notin0 (show s < 2147483648 by omega)]
      refine ⟨fun h2 => ?_, fun h2 => ?_⟩
      · rw [if_neg (fun hh => h2 hh.1)] at st
        rw [← st]
        exact ih (by omega) _ _ (by omega)
      · refine qBI.fn (m_bits σ (by omega)) (by decide) (qBI.fn (m_bits σ (by omega)) (by decide) ?_)
        simp (disch := omega) only [nI_leI, nI_ltI, nI_eq, nI_cl, qin_eq, nI_add, nI_mul, qb_z, qb_t, qb_f, nI_ne0', Nat.reduceAdd, Bool.false_eq_true, if_false, if_true, true_and, and_true, Nat.reduceEqDiff, not_true_eq_false, not_false_eq_true, false_implies, true_implies, ite_true, ite_false]
        refine ⟨fun h3 => ?_, fun h3 => ?_⟩
        rotate_left
        · rw [if_neg (by omega)] at st
          rw [← st]
          exact ih (by omega) _ _ (by omega)
        · refine qdown (n := C 0 1) (P := fun q => qV 325 5 (.inl fun r σ' => r = nI (zapart C) ∧ σ' = σ) 46 [some (qr 139), some (qi (nI S)), some (qi (nI s)), some (qi (nI (zun C s q))), some (qi (nI q))] [] σ) (fun q hq ih2 => ?_) 0 (Nat.zero_le _)
          have hu := zun_lt hw s q hq
          have hs2 : zun C s (q + 1) = if s.testBit q then zun C s q ||| zboth C q else zun C s q := rfl
          have hfin2 : q = C 0 1 → zun C s (C 0 1) = zun C s q := fun e => by rw [e]
          generalize zun C s q = U at hu hs2 hfin2 ⊢
          refine qV.go 30 [4, 46] ok_325 ?_
          simp only [qW_nop, qW_iconst, qW_iconstm, qW_iloadn, qW_iload, qW_aloadn, qW_istoren, qW_istore, qW_iinc, qW_imul, qW_iand, qW_ior, qW_ixor, qW_ishl, qW_ifeq, qW_ifne, qW_icne, qW_icge, qW_icgt, qW_goto, qW_getf, qW_iald, qW_cs1_0, qW_cv1_0, qW_cv2_0, qW_cv3_0, qW_iret0, Nat.reduceAdd, Nat.reduceMul, Nat.reduceBEq, Nat.reduceEqDiff, Nat.reduceLT, Nat.reduceLeDiff, Nat.zero_le, nI_add, nI_mul, nI_cl, qin_eq, qofI, qlg_0, qlg_s, qls_i0, qls_r0, qls_l0, qls_1, qls_2, qkl_i, qkl_r, qkl_l, qkl_n, qIsI_i, qIsL_l, qIsR_r, qint_i, qil_i, qil_r, qil_l, qf4_0, qf4_1, qf4_2, qf4_3, qf2_0, qf2_1, qcs_n, qcs_i, qcs_r, qcs_l, qst_n, qst_c, qJ_0, qJ_st, qJ_go, qfl_I, qfl_Z, qfl_L, qfl_R, qrI_i, qrL_l, qrV_v, qRcv_0, qRcv_s, eq_self, true_and, and_true, true_or, or_true, false_and, and_false, false_or, or_false, ite_true, if_true, if_false, Bool.true_or, Bool.false_or, Bool.or_false, beq_self_eq_true, Bool.false_eq_true, bX12_apartOnes_0, bX12_apartOnes_4, bX12_apartOnes_41, bX12_apartOnes_46, bX12_apartOnes_76, bX12_apartOnes_82, bX12_apartOnes_97, bX12_apartOnes_103, kX12_apartOnes_0, kX12_apartOnes_4, kX12_apartOnes_41, kX12_apartOnes_46, kX12_apartOnes_76, kX12_apartOnes_82, kX12_apartOnes_97, kX12_apartOnes_103, qK_139, qR_139_0, qK_140, qR_139_1, qK_141, qR_139_5, qK_142, qR_139_6, qK_143, qR_139_7, qK_144, qR_139_8, qK_145, qR_139_9, qK_146, qR_139_21, qK_147, qR_139_25, qK_148, qR_139_30, qK_149, qR_139_31, qK_150, qR_139_33, qK_151, qR_139_34, qK_152, qR_139_35, qK_153, qR_139_36, qK_154, qR_139_39, qK_155, qR_139_40, qK_156, qR_139_41, qK_157]
          rw [zM_s h 1 (by decide)]
          simp (disch := omega) only [nI_leI, nI_ltI, nI_eq, nI_cl, qin_eq, nI_add, nI_mul, qb_z, qb_t, qb_f, nI_ne0', Nat.reduceAdd, Bool.false_eq_true, if_false, if_true, true_and, and_true, Nat.reduceEqDiff, not_true_eq_false, not_false_eq_true, false_implies, true_implies, ite_true, ite_false]
          refine ⟨fun h4 => ?_, fun h4 => ?_⟩
          · have eU := hfin2 (by omega)
            rw [eU] at st
            have b3 := zpop_le (n := U) (k := 8) (by omega)
            refine qBI.fn (m_bits σ (by omega)) (by decide) (qBI.fn (m_bits σ (by omega)) (by decide) ?_)
            simp (disch := omega) only [nI_leI, nI_ltI, nI_eq, nI_cl, qin_eq, nI_add, nI_mul, qb_z, qb_t, qb_f, nI_ne0', Nat.reduceAdd, Bool.false_eq_true, if_false, if_true, true_and, and_true, Nat.reduceEqDiff, not_true_eq_false, not_false_eq_true, false_implies, true_implies, ite_true, ite_false]
            refine ⟨fun h5 => ?_, fun h5 => ?_⟩
            · rw [if_neg (by omega)] at st
              rw [← st]
              exact ih (by omega) _ _ (by omega)
            · rw [if_pos ⟨h2, by omega, h5⟩] at st
              have := ih (by omega) (some (qi (nI U))) (some (qi (nI q))) (by omega)
              rw [st] at this
              exact this
          · have hq1 : q < C 0 1 := by omega
            refine qBI.fn (m_isIn σ (by omega) (by omega)) (by decide) ?_
            simp (disch := omega) only [nI_leI, nI_ltI, nI_eq, nI_cl, qin_eq, nI_add, nI_mul, qb_z, qb_t, qb_f, nI_ne0', Nat.reduceAdd, Bool.false_eq_true, if_false, if_true, true_and, and_true, Nat.reduceEqDiff, not_true_eq_false, not_false_eq_true, false_implies, true_implies, ite_true, ite_false]
            refine ⟨fun h5 => ?_, fun h5 => ?_⟩
            · rw [if_neg (by rw [h5]; decide)] at hs2
              rw [← hs2]; exact ih2 hq1
            · rw [if_pos (by simpa using h5)] at hs2
              refine qBI.fn (m_both h hw hq1) (by decide) ?_
              rw [nI_or, ← hs2]; exact ih2 hq1
/-- behind how many minutes a quarrel is over -/
def zover (C : zC) (q : Nat) : Nat := zlst (fun n => decide (zit n C 9 q ≠ 0)) 300 0
theorem zover_spec {C : zC} (hw : zW C) (hm : C 0 5 ≤ 99000) {q : Nat} (hq : q < C 0 1) : zover C q ≤ 130 ∧ zit (zover C q) C 9 q ≠ 0 ∧ ∀ m, m < zover C q → zit m C 9 q = 0 := by
  have := zlst_spec (fun n => decide (zit n C 9 q ≠ 0)) 300 0 130 (by omega) (by omega) (by simpa using zit_end hw (Nat.le_refl _) (by omega) hq)
  exact ⟨this.2.1, by have := this.2.2.1; rw [decide_eq_true_eq] at this; exact this, fun m h => by have := this.2.2.2 m (by omega) h; rw [decide_eq_false_iff_not] at this; exact Decidable.of_not_not this⟩
set_option maxRecDepth 20000 in
theorem m_overOf {σ : qSg} {C : zC} (h : zM σ 0 C) (hw : zW C) (hm : C 0 5 ≤ 99000) {q : Nat} (hq : q < C 0 1) : qCI 7 308 [qr 139, qi (nI q)] σ (fun r σ' => r = nI (zover C q) ∧ zM σ' 0 (zit (zover C q) C) ∧ zF zPm σ σ') := by
  have sp := zover_spec hw hm hq
  refine qCI.of [some (qr 139), some (qi (nI q)), none] ok_308 (Nat.le_of_ble_eq_true rfl) rfl ?_
  refine qV.go 30 [2] ok_308 ?_
  simp only [qW_nop, qW_iconst, qW_iloadn, qW_aloadn, qW_istoren, qW_iinc, qW_pop, qW_ifeq, qW_goto, qW_cv1_0, qW_cv2_0, qW_iret0, Nat.reduceAdd, Nat.reduceMul, Nat.reduceBEq, Nat.reduceEqDiff, Nat.reduceLT, Nat.reduceLeDiff, Nat.zero_le, nI_add, nI_mul, nI_cl, qin_eq, qofI, qlg_0, qlg_s, qls_i0, qls_r0, qls_l0, qls_1, qls_2, qkl_i, qkl_r, qkl_l, qkl_n, qIsI_i, qIsL_l, qIsR_r, qint_i, qil_i, qil_r, qil_l, qf4_0, qf4_1, qf4_2, qf4_3, qf2_0, qf2_1, qcs_n, qcs_i, qcs_r, qcs_l, qst_n, qst_c, qJ_0, qJ_st, qJ_go, qfl_I, qfl_Z, qfl_L, qfl_R, qrI_i, qrL_l, qrV_v, qRcv_0, qRcv_s, eq_self, true_and, and_true, true_or, or_true, false_and, and_false, false_or, or_false, ite_true, if_true, if_false, Bool.true_or, Bool.false_or, Bool.or_false, beq_self_eq_true, Bool.false_eq_true, bX12_overOf_0, bX12_overOf_2, bX12_overOf_21, kX12_overOf_0, kX12_overOf_2, kX12_overOf_21, qK_139, qR_139_0, qK_140, qR_139_1, qK_141, qR_139_5, qK_142, qR_139_6, qK_143, qR_139_7, qK_144, qR_139_8, qK_145, qR_139_9, qK_146, qR_139_21, qK_147, qR_139_25, qK_148, qR_139_30, qK_149, qR_139_31, qK_150, qR_139_33, qK_151, qR_139_34, qK_152, qR_139_35, qK_153, qR_139_36, qK_154, qR_139_39, qK_155, qR_139_40, qK_156, qR_139_41, qK_157]
  refine qdown (n := zover C q) (P := fun k => ∀ σ1, zM σ1 0 (zit k C) → zF zPm σ σ1 → qV 308 7 _ 2 [some (qr 139), some (qi (nI q)), some (qi (nI k))] [] σ1) (fun k hk ih => ?_) 0 (Nat.zero_le _) σ h zF.rf
  intro σ1 a1 f1
  have w1 := zit_W hw k (by omega)
  have e01 : zit k C 0 1 = C 0 1 := zit_q _ _ _ (by decide) (by decide) (by decide) k
  refine qV.go 30 [2] ok_308 ?_
  simp only [qW_nop, qW_iconst, qW_iloadn, qW_aloadn, qW_istoren, qW_iinc, qW_pop, qW_ifeq, qW_goto, qW_cv1_0, qW_cv2_0, qW_iret0, Nat.reduceAdd, Nat.reduceMul, Nat.reduceBEq, Nat.reduceEqDiff, Nat.reduceLT, Nat.reduceLeDiff, Nat.zero_le, nI_add, nI_mul, nI_cl, qin_eq, qofI, qlg_0, qlg_s, qls_i0, qls_r0, qls_l0, qls_1, qls_2, qkl_i, qkl_r, qkl_l, qkl_n, qIsI_i, qIsL_l, qIsR_r, qint_i, qil_i, qil_r, qil_l, qf4_0, qf4_1, qf4_2, qf4_3, qf2_0, qf2_1, qcs_n, qcs_i, qcs_r, qcs_l, qst_n, qst_c, qJ_0, qJ_st, qJ_go, qfl_I, qfl_Z, qfl_L, qfl_R, qrI_i, qrL_l, qrV_v, qRcv_0, qRcv_s, eq_self, true_and, and_true, true_or, or_true, false_and, and_false, false_or, or_false, ite_true, if_true, if_false, Bool.true_or, Bool.false_or, Bool.or_false, beq_self_eq_true, Bool.false_eq_true, bX12_overOf_0, bX12_overOf_2, bX12_overOf_21, kX12_overOf_0, kX12_overOf_2, kX12_overOf_21, qK_139, qR_139_0, qK_140, qR_139_1, qK_141, qR_139_5, qK_142, qR_139_6, qK_143, qR_139_7, qK_144, qR_139_8, qK_145, qR_139_9, qK_146, qR_139_21, qK_147, qR_139_25, qK_148, qR_139_30, qK_149, qR_139_31, qK_150, qR_139_33, qK_151, qR_139_34, qK_152, qR_139_35, qK_153, qR_139_36, qK_154, qR_139_39, qK_155, qR_139_40, qK_156, qR_139_41, qK_157]
  refine qBI.fn (m_isOpen a1 w1 (by omega)) (by decide) ?_
  simp (disch := omega) only [nI_leI, nI_ltI, nI_eq, nI_cl, qin_eq, nI_add, nI_mul, qb_z, qb_t, qb_f, nI_ne0', Nat.reduceAdd, Bool.false_eq_true, if_false, if_true, true_and, and_true, Nat.reduceEqDiff, not_true_eq_false, not_false_eq_true, false_implies, true_implies, ite_true, ite_false]
  refine ⟨fun h1 => ?_, fun h1 => ?_⟩
  · have e : k = zover C q := by
      rcases Nat.lt_or_ge k (zover C q) with g | g
      · rw [zOpen, sp.2.2 k g] at h1; simp at h1
      · omega
    subst e
    exact ⟨rfl, a1, f1⟩
  · have hlt : k < zover C q := by
      rcases Nat.lt_or_ge k (zover C q) with g | g
      · exact g
      · have e : k = zover C q := by omega
        subst e
        have := sp.2.1
        rw [zOpen] at h1
        simp [this] at h1
    refine qBI.of (m_minuteGoes a1 w1 (by rw [zit_clock]; omega)) (by decide) (fun r σ2 h2 => ?_)
    obtain ⟨-, a2, f2, -⟩ := h2
    exact ih hlt σ2 a2 (f1.tr f2)
-- where to pitch
def zbf (C : zC) (b : Nat) : Nat → Nat × Nat
  | 0 => (0, 1000000)
  | c + 1 => if zbrk (zu C 1 b c) < (zbf C b c).2 then (c, zbrk (zu C 1 b c)) else zbf C b c
def zbest (C : zC) (b : Nat) : Nat × Nat := zbf C b (C 0 2 * C 0 3)
theorem zbrk_le {C : zC} (hw : zW C) (hm : C 0 5 ≤ 99000) : zbrk C ≤ 130 := (zupn_spec hw hm (fun i hi => zall_bit hi)).1
theorem zu1_W {C : zC} (hw : zW C) {b c : Nat} (hc : c < C 0 2 * C 0 3) : zW (zu C 1 b c) := by
  obtain ⟨wb, wq, ww1, ww2, wh1, wh2, wo, wm, wB, wQ⟩ := id hw
  have e : ∀ f i, f ≠ 1 → zu C 1 b c f i = C f i := fun f i h => zu_ne (by omega)
  refine ⟨?_, ?_, ?_, ?_, ?_, ?_, ?_, ?_, fun b1 hb1 => ?_, fun q hq => ?_⟩
  · rw [e 0 _ (by decide)]; exact wb
  · rw [e 0 _ (by decide)]; exact wq
  · rw [e 0 _ (by decide)]; exact ww1
  · rw [e 0 _ (by decide)]; exact ww2
  · rw [e 0 _ (by decide)]; exact wh1
  · rw [e 0 _ (by decide)]; exact wh2
  · rw [e 0 _ (by decide)]; exact wo
  · rw [e 0 _ (by decide)]; exact wm
  · rw [e 0 _ (by decide)] at hb1
    rw [e 0 _ (by decide), e 0 _ (by decide), e 2 _ (by decide), e 3 _ (by decide), e 4 _ (by decide)]
    have := wB b1 hb1
    refine ⟨?_, this.2⟩
    by_cases h1 : b1 = b
    · subst h1; rw [zu_eq]; exact hc
    · rw [zu_ne (by omega)]; exact this.1
  · rw [e 0 _ (by decide)] at hq
    rw [e 0 _ (by decide), e 6 _ (by decide), e 7 _ (by decide), e 8 _ (by decide), e 9 _ (by decide)]
    exact wQ q hq
/-- the first minute behind which a boy is up -/
def zupb (C : zC) (b : Nat) : Nat := zlst (fun n => zUp (zit n C) b) 300 0
theorem zupb_spec {C : zC} (hw : zW C) (hm : C 0 5 ≤ 99000) (b : Nat) : zupb C b ≤ 130 ∧ zUp (zit (zupb C b) C) b = true ∧ ∀ m, m < zupb C b → zUp (zit m C) b = false := by
  have := zlst_spec (fun n => zUp (zit n C) b) 300 0 130 (by omega) (by omega) (zUp_end hw (Nat.le_refl _) (by omega) b)
  exact ⟨this.2.1, this.2.2.1, fun m h => this.2.2.2 m (by omega) h⟩
theorem zups_full {C : zC} {n : Nat} (h : ∀ b, b < C 0 0 → zUp (zit n C) b = true) : zups (zit n C) = 2 ^ C 0 0 - 1 := by
  apply Nat.eq_of_testBit_eq
  intro i
  rw [zups_it, Nat.testBit_two_pow_sub_one]
  by_cases hi : i < C 0 0
  · rw [h i hi, Bool.and_true]
  · simp [hi]
theorem zups_full' {C : zC} {n : Nat} (h : zups (zit n C) = 2 ^ C 0 0 - 1) {b : Nat} (hb : b < C 0 0) : zUp (zit n C) b = true := by
  have := congrArg (fun x => x.testBit b) h
  simp only [zups_it, Nat.testBit_two_pow_sub_one, hb, decide_true, Bool.true_and] at this
  exact this
/-- what laysUp writes -/
def zPu (a j : Nat) : Prop := (a = 140 ∧ 2280 ≤ j ∧ j < 2368) ∨ (a = 139 ∧ j = 24) ∨ a = 148
def zPv (a j : Nat) : Prop := (a = 140 ∧ j < 88) ∨ (a = 139 ∧ j = 24) ∨ a = 148
theorem zback2 {σ σ2 : qSg} (f : zF zPv (zmv σ 140 0 2280 88) σ2) : zF zPu σ (zmv σ2 140 2280 0 88) := by
  refine ⟨fun a j hp => ?_, f.2⟩
  simp only [zmv]
  by_cases e : a = 140 ∧ 0 ≤ j ∧ j < 0 + 88
  · obtain ⟨rfl, e1, e2⟩ := e
    rw [if_pos ⟨rfl, e1, e2⟩, f.1 _ _ (by unfold zPv; omega)]
    simp only [zmv, true_and]
    rw [if_pos (by omega), show 0 + (2280 + (j - 0) - 2280) = j by omega]
  · rw [if_neg e, f.1 a j (by unfold zPv; unfold zPu at hp; omega)]
    simp only [zmv]
    rw [if_neg (by unfold zPu at hp; omega)]
set_option maxRecDepth 20000 in
theorem m_laysUp {σ : qSg} {C : zC} (h : zM σ 0 C) (hw : zW C) (hm : C 0 5 ≤ 99000) : qCV 7 313 [qr 139] σ (fun σ' => (∀ b, b < C 0 0 → σ'.1 148 b = nI (zupb C b)) ∧ zF zPu σ σ') := by
  obtain ⟨wb, wq, ww1, ww2, wh1, wh2, wo, wm, wB, wQ⟩ := id hw
  have hp2 := zpow_le hw
  refine qCV.of [some (qr 139), none, none, none, none] ok_313 (Nat.le_of_ble_eq_true rfl) rfl ?_
  refine qV.go 30 [11] ok_313 ?_
  simp only [qW_nop, qW_iconst, qW_iconstm, qW_sipush, qW_iloadn, qW_iload, qW_aloadn, qW_istoren, qW_istore, qW_iinc, qW_iand, qW_ior, qW_ixor, qW_pop, qW_ifeq, qW_iceq, qW_icge, qW_goto, qW_getf, qW_iald, qW_iast, qW_vret, qW_cv1_0, qW_cv2_2, qW_cv3_0, Nat.reduceAdd, Nat.reduceMul, Nat.reduceBEq, Nat.reduceEqDiff, Nat.reduceLT, Nat.reduceLeDiff, Nat.zero_le, nI_add, nI_mul, nI_cl, qin_eq, qofI, qlg_0, qlg_s, qls_i0, qls_r0, qls_l0, qls_1, qls_2, qkl_i, qkl_r, qkl_l, qkl_n, qIsI_i, qIsL_l, qIsR_r, qint_i, qil_i, qil_r, qil_l, qf4_0, qf4_1, qf4_2, qf4_3, qf2_0, qf2_1, qcs_n, qcs_i, qcs_r, qcs_l, qst_n, qst_c, qJ_0, qJ_st, qJ_go, qfl_I, qfl_Z, qfl_L, qfl_R, qrI_i, qrL_l, qrV_v, qRcv_0, qRcv_s, eq_self, true_and, and_true, true_or, or_true, false_and, and_false, false_or, or_false, ite_true, if_true, if_false, Bool.true_or, Bool.false_or, Bool.or_false, beq_self_eq_true, Bool.false_eq_true, bX12_laysUp_0, bX12_laysUp_11, bX12_laysUp_27, bX12_laysUp_60, bX12_laysUp_66, bX12_laysUp_81, kX12_laysUp_0, kX12_laysUp_11, kX12_laysUp_27, kX12_laysUp_60, kX12_laysUp_66, kX12_laysUp_81, qK_139, qR_139_0, qK_140, qR_139_1, qK_141, qR_139_5, qK_142, qR_139_6, qK_143, qR_139_7, qK_144, qR_139_8, qK_145, qR_139_9, qK_146, qR_139_21, qK_147, qR_139_25, qK_148, qR_139_30, qK_149, qR_139_31, qK_150, qR_139_33, qK_151, qR_139_34, qK_152, qR_139_35, qK_153, qR_139_36, qK_154, qR_139_39, qK_155, qR_139_40, qK_156, qR_139_41, qK_157]
  refine qBV.of (m_keeps σ (by decide) (by decide)) (by decide) (fun σ0 h0 => ?_)
  subst h0
  have a0 := zkeep_M h hw (t := 2280) (by decide)
  have key := qdown (n := 131) (P := fun n => ∀ (σ1 : qSg) (s : Nat) (l3 l4 : Option qPV), zM σ1 0 (zit n C) → zF zPv (zmv σ 140 0 2280 88) σ1 → (∀ b, s.testBit b = (decide (b < C 0 0) && decide (zupb C b < n))) → s < 256 → (∀ b, b < C 0 0 → zupb C b < n → σ1.1 148 b = nI (zupb C b)) →
    qV 313 7 (.inr (.inr fun σ' => (∀ b, b < C 0 0 → σ'.1 148 b = nI (zupb C b)) ∧ zF zPu σ σ')) 11 [some (qr 139), some (qi (nI s)), some (qi (nI n)), l3, l4] [] σ1) (fun n hn ih => ?_)
  · refine key 0 (by decide) _ 0 none none a0 zF.rf (fun b => by simp) (by decide) (fun b hb hh => absurd hh (by omega))
  · intro σ1 s l3 l4 a1 f1 hs hs2 hu
    have w1 := zit_W hw n (by omega)
    have e00 : zit n C 0 0 = C 0 0 := zit_q _ _ _ (by decide) (by decide) (by decide) n
    refine qV.go 30 [11, 27] ok_313 ?_
    simp only [qW_nop, qW_iconst, qW_iconstm, qW_sipush, qW_iloadn, qW_iload, qW_aloadn, qW_istoren, qW_istore, qW_iinc, qW_iand, qW_ior, qW_ixor, qW_pop, qW_ifeq, qW_iceq, qW_icge, qW_goto, qW_getf, qW_iald, qW_iast, qW_vret, qW_cv1_0, qW_cv2_2, qW_cv3_0, Nat.reduceAdd, Nat.reduceMul, Nat.reduceBEq, Nat.reduceEqDiff, Nat.reduceLT, Nat.reduceLeDiff, Nat.zero_le, nI_add, nI_mul, nI_cl, qin_eq, qofI, qlg_0, qlg_s, qls_i0, qls_r0, qls_l0, qls_1, qls_2, qkl_i, qkl_r, qkl_l, qkl_n, qIsI_i, qIsL_l, qIsR_r, qint_i, qil_i, qil_r, qil_l, qf4_0, qf4_1, qf4_2, qf4_3, qf2_0, qf2_1, qcs_n, qcs_i, qcs_r, qcs_l, qst_n, qst_c, qJ_0, qJ_st, qJ_go, qfl_I, qfl_Z, qfl_L, qfl_R, qrI_i, qrL_l, qrV_v, qRcv_0, qRcv_s, eq_self, true_and, and_true, true_or, or_true, false_and, and_false, false_or, or_false, ite_true, if_true, if_false, Bool.true_or, Bool.false_or, Bool.or_false, beq_self_eq_true, Bool.false_eq_true, bX12_laysUp_0, bX12_laysUp_11, bX12_laysUp_27, bX12_laysUp_60, bX12_laysUp_66, bX12_laysUp_81, kX12_laysUp_0, kX12_laysUp_11, kX12_laysUp_27, kX12_laysUp_60, kX12_laysUp_66, kX12_laysUp_81, qK_139, qR_139_0, qK_140, qR_139_1, qK_141, qR_139_5, qK_142, qR_139_6, qK_143, qR_139_7, qK_144, qR_139_8, qK_145, qR_139_9, qK_146, qR_139_21, qK_147, qR_139_25, qK_148, qR_139_30, qK_149, qR_139_31, qK_150, qR_139_33, qK_151, qR_139_34, qK_152, qR_139_35, qK_153, qR_139_36, qK_154, qR_139_39, qK_155, qR_139_40, qK_156, qR_139_41, qK_157]
    refine qBI.fn (m_everybody a1 w1) (by decide) ?_
    rw [e00]
    simp (disch := omega) only [nI_leI, nI_ltI, nI_eq, nI_cl, qin_eq, nI_add, nI_mul, qb_z, qb_t, qb_f, nI_ne0', Nat.reduceAdd, Bool.false_eq_true, if_false, if_true, true_and, and_true, Nat.reduceEqDiff, not_true_eq_false, not_false_eq_true, false_implies, true_implies, ite_true, ite_false]
    refine ⟨fun h1 => ?_, fun h1 => ?_⟩
    · refine qBV.of (m_restores σ1 (by decide) (by decide)) (by decide) (fun σ3 h3 => ?_)
      subst h3
      refine ⟨fun b hb => ?_, zback2 f1⟩
      have := hs b
      rw [h1, Nat.testBit_two_pow_sub_one] at this
      simp [hb] at this
      exact hu b hb this
    · have hn1 : n < 131 := by
        rcases Nat.lt_or_ge n 131 with g | g
        · exact g
        · exfalso
          apply h1
          apply Nat.eq_of_testBit_eq
          intro i
          rw [hs, Nat.testBit_two_pow_sub_one]
          have := (zupb_spec hw hm i).1
          simp [show zupb C i < n by omega]
      have hul := zups_lt w1
      refine qBI.fn (m_areUp a1 w1) (by decide) ?_
      have hub : ∀ b, b < C 0 0 → ((zups (zit n C)).testBit b = decide (zupb C b ≤ n)) := by
        intro b hb
        rw [zups_it]
        have sp := zupb_spec hw hm b
        by_cases e : zupb C b ≤ n
        · rw [zUp_mono e sp.2.1]; simp [hb, e]
        · rw [sp.2.2 n (by omega)]; simp [e]
      refine qdown (n := C 0 0) (P := fun b => ∀ σ2, zM σ2 0 (zit n C) → zF zPv (zmv σ 140 0 2280 88) σ2 → (∀ j, j < C 0 0 → (zupb C j < n ∨ (zupb C j = n ∧ j < b)) → σ2.1 148 j = nI (zupb C j)) →
        qV 313 7 (.inr (.inr fun σ' => (∀ b, b < C 0 0 → σ'.1 148 b = nI (zupb C b)) ∧ zF zPu σ σ')) 27 [some (qr 139), some (qi (nI s)), some (qi (nI n)), some (qi (nI (zups (zit n C)))), some (qi (nI b))] [] σ2) (fun b hb ih2 => ?_) 0 (Nat.zero_le _) σ1 a1 f1 (fun j hj hh => hu j hj (by omega))
      intro σ2 a2 f2 hu2
      refine qV.go 30 [11, 27] ok_313 ?_
      simp only [qW_nop, qW_iconst, qW_iconstm, qW_sipush, qW_iloadn, qW_iload, qW_aloadn, qW_istoren, qW_istore, qW_iinc, qW_iand, qW_ior, qW_ixor, qW_pop, qW_ifeq, qW_iceq, qW_icge, qW_goto, qW_getf, qW_iald, qW_iast, qW_vret, qW_cv1_0, qW_cv2_2, qW_cv3_0, Nat.reduceAdd, Nat.reduceMul, Nat.reduceBEq, Nat.reduceEqDiff, Nat.reduceLT, Nat.reduceLeDiff, Nat.zero_le, nI_add, nI_mul, nI_cl, qin_eq, qofI, qlg_0, qlg_s, qls_i0, qls_r0, qls_l0, qls_1, qls_2, qkl_i, qkl_r, qkl_l, qkl_n, qIsI_i, qIsL_l, qIsR_r, qint_i, qil_i, qil_r, qil_l, qf4_0, qf4_1, qf4_2, qf4_3, qf2_0, qf2_1, qcs_n, qcs_i, qcs_r, qcs_l, qst_n, qst_c, qJ_0, qJ_st, qJ_go, qfl_I, qfl_Z, qfl_L, qfl_R, qrI_i, qrL_l, qrV_v, qRcv_0, qRcv_s, eq_self, true_and, and_true, true_or, or_true, false_and, and_false, false_or, or_false, ite_true, if_true, if_false, Bool.true_or, Bool.false_or, Bool.or_false, beq_self_eq_true, Bool.false_eq_true, bX12_laysUp_0, bX12_laysUp_11, bX12_laysUp_27, bX12_laysUp_60, bX12_laysUp_66, bX12_laysUp_81, kX12_laysUp_0, kX12_laysUp_11, kX12_laysUp_27, kX12_laysUp_60, kX12_laysUp_66, kX12_laysUp_81, qK_139, qR_139_0, qK_140, qR_139_1, qK_141, qR_139_5, qK_142, qR_139_6, qK_143, qR_139_7, qK_144, qR_139_8, qK_145, qR_139_9, qK_146, qR_139_21, qK_147, qR_139_25, qK_148, qR_139_30, qK_149, qR_139_31, qK_150, qR_139_33, qK_151, qR_139_34, qK_152, qR_139_35, qK_153, qR_139_36, qK_154, qR_139_39, qK_155, qR_139_40, qK_156, qR_139_41, qK_157]
      rw [zM_s a2 0 (by decide), e00, nI_notin, nI_or]
      simp (disch := omega) only [nI_leI, nI_ltI, nI_eq, nI_cl, qin_eq, nI_add, nI_mul, qb_z, qb_t, qb_f, nI_ne0', Nat.reduceAdd, Bool.false_eq_true, if_false, if_true, true_and, and_true, Nat.reduceEqDiff, not_true_eq_false, not_false_eq_true, false_implies, true_implies, ite_true, ite_false]
      refine ⟨fun h2 => ?_, fun h2 => ?_⟩
      · refine qBI.of (m_minuteGoes a2 w1 (by rw [zit_clock]; omega)) (by decide) (fun r σ3 h3 => ?_)
        obtain ⟨-, a3, f3, -⟩ := h3
        refine ih hn1 σ3 _ _ _ a3 (f2.tr (f3.wk fun a j hp => by unfold zPm at hp; unfold zPv; omega)) (fun b1 => ?_) (Nat.or_lt_two_pow (n := 8) hs2 hul) (fun b1 hb1 hh => ?_)
        · rw [Nat.testBit_or, hs]
          by_cases hb1 : b1 < C 0 0
          · rw [hub b1 hb1]
            simp only [hb1, decide_true, Bool.true_and]
            rw [← Bool.decide_or]
            exact decide_eq_decide.mpr (by omega)
          · rw [zups_it]; simp [hb1]
        · rw [f3.1 _ _ (by unfold zPm; omega)]
          exact hu2 b1 hb1 (by omega)
      · have hb1 : b < C 0 0 := by omega
        refine qBI.fn (m_isIn σ2 (Nat.lt_trans (zxor_lt (n := 8) hul) (by decide)) (by omega)) (by decide) ?_
        have eb : (zups (zit n C) ^^^ (zups (zit n C) &&& s)).testBit b = decide (zupb C b = n) := by
          rw [Nat.testBit_xor, Nat.testBit_and, hub b hb1, hs]
          simp only [hb1, decide_true, Bool.true_and]
          by_cases e : zupb C b ≤ n
          · by_cases e2 : zupb C b < n
            · simp [e, e2, show ¬ zupb C b = n by omega]
            · simp [e, e2, show zupb C b = n by omega]
          · simp [e, show ¬ zupb C b = n by omega]
        rw [eb]
        simp (disch := omega) only [nI_leI, nI_ltI, nI_eq, nI_cl, qin_eq, nI_add, nI_mul, qb_z, qb_t, qb_f, nI_ne0', Nat.reduceAdd, Bool.false_eq_true, if_false, if_true, true_and, and_true, Nat.reduceEqDiff, not_true_eq_false, not_false_eq_true, false_implies, true_implies, ite_true, ite_false]
        refine ⟨fun h3 => ?_, fun h3 => ?_⟩
        · rw [decide_eq_false_iff_not] at h3
          refine ih2 hb1 σ2 a2 f2 (fun j hj hh => hu2 j hj ?_)
          by_cases ej : j = b
          · subst ej; omega
          · omega
        · have h3' : zupb C b = n := by simpa using h3
          refine ih2 hb1 _ (zM_wi a2 (by omega) w1) (f2.tr (zF.wi (Or.inr (Or.inr rfl)))) (fun j hj hh => ?_)
          rw [qwi_1]
          by_cases ej : j = b
          · subst ej; rw [if_pos ⟨rfl, rfl⟩, h3']
          · rw [if_neg (by omega)]
            exact hu2 j hj (by omega)
