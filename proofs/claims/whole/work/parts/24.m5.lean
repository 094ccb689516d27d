/-! the reference: sets of boys, sets of quarrels -/
def zendsAll (C : zC) (s : Nat) : Bool := zall (fun q => !(zOpen C q) || decide (zboth C q &&& s ≠ 0)) (C 0 1)
set_option maxRecDepth 20000 in
theorem m_endsAll {σ : qSg} {C : zC} (h : zM σ 0 C) (hw : zW C) {s : Nat} (hs : s < 2147483648) : qFI 4 321 [qr 139, qi (nI s)] σ (qb (zendsAll C s)) := by
  obtain ⟨wb, wq, ww1, ww2, wh1, wh2, wo, wm, wB, wQ⟩ := id hw
  refine qCI.of [some (qr 139), some (qi (nI s)), none] ok_321 (Nat.le_of_ble_eq_true rfl) rfl ?_
  refine qV.go 30 [2] ok_321 ?_
  simp only [qW_nop, qW_iconst, qW_iloadn, qW_aloadn, qW_istoren, qW_iinc, qW_iand, qW_ifeq, qW_ifne, qW_icge, qW_goto, qW_getf, qW_iald, qW_cv2_0, qW_iret1, Nat.reduceAdd, Nat.reduceMul, Nat.reduceBEq, Nat.reduceEqDiff, Nat.reduceLT, Nat.reduceLeDiff, Nat.zero_le, nI_add, nI_mul, nI_cl, qin_eq, qofI, qlg_0, qlg_s, qls_i0, qls_r0, qls_l0, qls_1, qls_2, qkl_i, qkl_r, qkl_l, qkl_n, qIsI_i, qIsL_l, qIsR_r, qint_i, qil_i, qil_r, qil_l, qf4_0, qf4_1, qf4_2, qf4_3, qf2_0, qf2_1, qcs_n, qcs_i, qcs_r, qcs_l, qst_n, qst_c, qJ_0, qJ_st, qJ_go, qfl_I, qfl_Z, qfl_L, qfl_R, qrI_i, qrL_l, qrV_v, qRcv_0, qRcv_s, eq_self, true_and, and_true, true_or, or_true, false_and, and_false, false_or, or_false, ite_true, if_true, if_false, Bool.true_or, Bool.false_or, Bool.or_false, beq_self_eq_true, Bool.false_eq_true, bX12_endsAll_0, bX12_endsAll_2, bX12_endsAll_32, bX12_endsAll_38, kX12_endsAll_0, kX12_endsAll_2, kX12_endsAll_32, kX12_endsAll_38, qK_139, qR_139_0, qK_140, qR_139_1, qK_141, qR_139_5, qK_142, qR_139_6, qK_143, qR_139_7, qK_144, qR_139_8, qK_145, qR_139_9, qK_146, qR_139_21, qK_147, qR_139_25, qK_148, qR_139_30, qK_149, qR_139_31, qK_150, qR_139_33, qK_151, qR_139_34, qK_152, qR_139_35, qK_153, qR_139_36, qK_154, qR_139_39, qK_155, qR_139_40, qK_156, qR_139_41, qK_157]
  refine qdown (n := C 0 1) (P := fun q => zall (fun q => !(zOpen C q) || decide (zboth C q &&& s ≠ 0)) q = true → qV 321 4 _ 2 [some (qr 139), some (qi (nI s)), some (qi (nI q))] [] σ) (fun q hq ih => ?_) 0 (Nat.zero_le _) rfl
  intro hp
  refine qV.go 30 [2] ok_321 ?_
  simp only [qW_nop, qW_iconst, qW_iloadn, qW_aloadn, qW_istoren, qW_iinc, qW_iand, qW_ifeq, qW_ifne, qW_icge, qW_goto, qW_getf, qW_iald, qW_cv2_0, qW_iret1, Nat.reduceAdd, Nat.reduceMul, Nat.reduceBEq, Nat.reduceEqDiff, Nat.reduceLT, Nat.reduceLeDiff, Nat.zero_le, nI_add, nI_mul, nI_cl, qin_eq, qofI, qlg_0, qlg_s, qls_i0, qls_r0, qls_l0, qls_1, qls_2, qkl_i, qkl_r, qkl_l, qkl_n, qIsI_i, qIsL_l, qIsR_r, qint_i, qil_i, qil_r, qil_l, qf4_0, qf4_1, qf4_2, qf4_3, qf2_0, qf2_1, qcs_n, qcs_i, qcs_r, qcs_l, qst_n, qst_c, qJ_0, qJ_st, qJ_go, qfl_I, qfl_Z, qfl_L, qfl_R, qrI_i, qrL_l, qrV_v, qRcv_0, qRcv_s, eq_self, true_and, and_true, true_or, or_true, false_and, and_false, false_or, or_false, ite_true, if_true, if_false, Bool.true_or, Bool.false_or, Bool.or_false, beq_self_eq_true, Bool.false_eq_true, bX12_endsAll_0, bX12_endsAll_2, bX12_endsAll_32, bX12_endsAll_38, kX12_endsAll_0, kX12_endsAll_2, kX12_endsAll_32, kX12_endsAll_38, qK_139, qR_139_0, qK_140, qR_139_1, qK_141, qR_139_5, qK_142, qR_139_6, qK_143, qR_139_7, qK_144, qR_139_8, qK_145, qR_139_9, qK_146, qR_139_21, qK_147, qR_139_25, qK_148, qR_139_30, qK_149, qR_139_31, qK_150, qR_139_33, qK_151, qR_139_34, qK_152, qR_139_35, qK_153, qR_139_36, qK_154, qR_139_39, qK_155, qR_139_40, qK_156, qR_139_41, qK_157]
  rw [zM_s h 1 (by decide)]
  simp (disch := omega) only [nI_leI, nI_ltI, nI_eq, nI_cl, qin_eq, nI_add, nI_mul, qb_z, qb_t, qb_f, nI_ne0', Nat.reduceAdd, Bool.false_eq_true, if_false, if_true, true_and, and_true, Nat.reduceEqDiff, not_true_eq_false, not_false_eq_true, false_implies, true_implies, ite_true, ite_false]
  refine ⟨fun h1 => ?_, fun h1 => ?_⟩
  · have e : q = C 0 1 := by omega
    subst e
    unfold zendsAll
    rw [hp]
    simp (disch := omega) only [nI_leI, nI_ltI, nI_eq, nI_cl, qin_eq, nI_add, nI_mul, qb_z, qb_t, qb_f, nI_ne0', Nat.reduceAdd, Bool.false_eq_true, if_false, if_true, true_and, and_true, Nat.reduceEqDiff, not_true_eq_false, not_false_eq_true, false_implies, true_implies, ite_true, ite_false]
  · have hq1 : q < C 0 1 := by omega
    have hl := zboth_lt hw hq1
    refine qBI.fn (m_isOpen h hw hq1) (by decide) ?_
    simp (disch := omega) only [nI_leI, nI_ltI, nI_eq, nI_cl, qin_eq, nI_add, nI_mul, qb_z, qb_t, qb_f, nI_ne0', Nat.reduceAdd, Bool.false_eq_true, if_false, if_true, true_and, and_true, Nat.reduceEqDiff, not_true_eq_false, not_false_eq_true, false_implies, true_implies, ite_true, ite_false]
    refine ⟨fun h2 => ?_, fun h2 => ?_⟩
    · exact ih hq1 (by simp only [zall, hp, h2]; rfl)
    · refine qBI.fn (m_both h hw hq1) (by decide) ?_
      have hl2 := zand_lt (b := s) hl
      rw [nI_and]
      simp (disch := omega) only [nI_leI, nI_ltI, nI_eq, nI_cl, qin_eq, nI_add, nI_mul, qb_z, qb_t, qb_f, nI_ne0', Nat.reduceAdd, Bool.false_eq_true, if_false, if_true, true_and, and_true, Nat.reduceEqDiff, not_true_eq_false, not_false_eq_true, false_implies, true_implies, ite_true, ite_false]
      have h2' : zOpen C q = true := by simpa using h2
      refine ⟨fun h3 => ?_, fun h3 => ?_⟩
      · exact ih hq1 (by simp only [zall, hp, h2']; simp [h3])
      · have : zendsAll C s = false := by
          cases hz : zendsAll C s with
          | false => rfl
          | true =>
            have := (zall_iff _ _).mp hz q hq1
            simp [h2', h3] at this
        rw [this]
        exact rfl
def zef (C : zC) : Nat → Nat
  | 0 => 2 ^ C 0 0 - 1
  | s + 1 => if zpop s < zpop (zef C s) ∧ zendsAll C s = true then s else zef C s
theorem zef_lt {C : zC} (hw : zW C) : ∀ s, s ≤ 2 ^ C 0 0 → zef C s < 2 ^ C 0 0
  | 0, _ => by
    have := Nat.two_pow_pos (C 0 0)
    simp only [zef]; omega
  | s + 1, h => by
    simp only [zef]
    split
    · omega
    · exact zef_lt hw s (by omega)
theorem zpow_le {C : zC} (hw : zW C) : 2 ^ C 0 0 ≤ 256 := (Nat.pow_le_pow_right (by decide) hw.1 : 2 ^ C 0 0 ≤ 2 ^ 8)
theorem zpow_le2 {C : zC} (hw : zW C) : 2 ^ C 0 1 ≤ 1024 := (Nat.pow_le_pow_right (by decide) hw.2.1 : 2 ^ C 0 1 ≤ 2 ^ 10)
def zending (C : zC) : Nat := zef C (2 ^ C 0 0)
set_option maxRecDepth 20000 in
theorem m_endingOf {σ : qSg} {C : zC} (h : zM σ 0 C) (hw : zW C) : qFI 5 322 [qr 139] σ (nI (zending C)) := by
  obtain ⟨wb, wq, ww1, ww2, wh1, wh2, wo, wm, wB, wQ⟩ := id hw
  have hp := Nat.two_pow_pos (C 0 0)
  have hp2 := zpow_le hw
  refine qCI.of [some (qr 139), none, none] ok_322 (Nat.le_of_ble_eq_true rfl) rfl ?_
  refine qV.go 30 [7] ok_322 ?_
  simp only [qW_nop, qW_iconst, qW_iloadn, qW_aloadn, qW_istoren, qW_iinc, qW_ifeq, qW_icge, qW_icgt, qW_goto, qW_cs1_0, qW_cv1_0, qW_cv2_0, qW_iret0, Nat.reduceAdd, Nat.reduceMul, Nat.reduceBEq, Nat.reduceEqDiff, Nat.reduceLT, Nat.reduceLeDiff, Nat.zero_le, nI_add, nI_mul, nI_cl, qin_eq, qofI, qlg_0, qlg_s, qls_i0, qls_r0, qls_l0, qls_1, qls_2, qkl_i, qkl_r, qkl_l, qkl_n, qIsI_i, qIsL_l, qIsR_r, qint_i, qil_i, qil_r, qil_l, qf4_0, qf4_1, qf4_2, qf4_3, qf2_0, qf2_1, qcs_n, qcs_i, qcs_r, qcs_l, qst_n, qst_c, qJ_0, qJ_st, qJ_go, qfl_I, qfl_Z, qfl_L, qfl_R, qrI_i, qrL_l, qrV_v, qRcv_0, qRcv_s, eq_self, true_and, and_true, true_or, or_true, false_and, and_false, false_or, or_false, ite_true, if_true, if_false, Bool.true_or, Bool.false_or, Bool.or_false, beq_self_eq_true, Bool.false_eq_true, bX12_endingOf_0, bX12_endingOf_7, bX12_endingOf_36, bX12_endingOf_42, kX12_endingOf_0, kX12_endingOf_7, kX12_endingOf_36, kX12_endingOf_42, qK_139, qR_139_0, qK_140, qR_139_1, qK_141, qR_139_5, qK_142, qR_139_6, qK_143, qR_139_7, qK_144, qR_139_8, qK_145, qR_139_9, qK_146, qR_139_21, qK_147, qR_139_25, qK_148, qR_139_30, qK_149, qR_139_31, qK_150, qR_139_33, qK_151, qR_139_34, qK_152, qR_139_35, qK_153, qR_139_36, qK_154, qR_139_39, qK_155, qR_139_40, qK_156, qR_139_41, qK_157]
  refine qBI.fn (m_everybody h hw) (by decide) ?_
  refine qdown (n := 2 ^ C 0 0) (P := fun s => qV 322 5 (.inl fun r σ' => r = nI (zending C) ∧ σ' = σ) 7 [some (qr 139), some (qi (nI (zef C s))), some (qi (nI s))] [] σ) (fun s hs ih => ?_) 0 (Nat.zero_le _)
  have hl := zef_lt hw s hs
  have hz := fun n (h : n < 2 ^ C 0 0) => zpop_le (n := n) (k := 8) (by omega)
  have b1 := hz _ hl
  have st : zef C (s + 1) = if zpop s < zpop (zef C s) ∧ zendsAll C s = true then s else zef C s := rfl
  refine qV.go 30 [7] ok_322 ?_
  simp only [qW_nop, qW_iconst, qW_iloadn, qW_aloadn, qW_istoren, qW_iinc, qW_ifeq, qW_icge, qW_icgt, qW_goto, qW_cs1_0, qW_cv1_0, qW_cv2_0, qW_iret0, Nat.reduceAdd, Nat.reduceMul, Nat.reduceBEq, Nat.reduceEqDiff, Nat.reduceLT, Nat.reduceLeDiff, Nat.zero_le, nI_add, nI_mul, nI_cl, qin_eq, qofI, qlg_0, qlg_s, qls_i0, qls_r0, qls_l0, qls_1, qls_2, qkl_i, qkl_r, qkl_l, qkl_n, qIsI_i, qIsL_l, qIsR_r, qint_i, qil_i, qil_r, qil_l, qf4_0, qf4_1, qf4_2, qf4_3, qf2_0, qf2_1, qcs_n, qcs_i, qcs_r, qcs_l, qst_n, qst_c, qJ_0, qJ_st, qJ_go, qfl_I, qfl_Z, qfl_L, qfl_R, qrI_i, qrL_l, qrV_v, qRcv_0, qRcv_s, eq_self, true_and, and_true, true_or, or_true, false_and, and_false, false_or, or_false, ite_true, if_true, if_false, Bool.true_or, Bool.false_or, Bool.or_false, beq_self_eq_true, Bool.false_eq_true, bX12_endingOf_0, bX12_endingOf_7, bX12_endingOf_36, bX12_endingOf_42, kX12_endingOf_0, kX12_endingOf_7, kX12_endingOf_36, kX12_endingOf_42, qK_139, qR_139_0, qK_140, qR_139_1, qK_141, qR_139_5, qK_142, qR_139_6, qK_143, qR_139_7, qK_144, qR_139_8, qK_145, qR_139_9, qK_146, qR_139_21, qK_147, qR_139_25, qK_148, qR_139_30, qK_149, qR_139_31, qK_150, qR_139_33, qK_151, qR_139_34, qK_152, qR_139_35, qK_153, qR_139_36, qK_154, qR_139_39, qK_155, qR_139_40, qK_156, qR_139_41, qK_157]
  refine qBI.fn (m_everybody h hw) (by decide) ?_
  simp (disch := omega) only [nI_leI, nI_ltI, nI_eq, nI_cl, qin_eq, nI_add, nI_mul, qb_z, qb_t, qb_f, nI_ne0', Nat.reduceAdd, Bool.false_eq_true, if_false, if_true, true_and, and_true, Nat.reduceEqDiff, not_true_eq_false, not_false_eq_true, false_implies, true_implies, ite_true, ite_false]
  refine ⟨fun h1 => ?_, fun h1 => ?_⟩
  · have e : s = 2 ^ C 0 0 := by omega
    subst e
    rfl
  · have b2 := hz s (by omega)
    refine qBI.fn (m_bits σ (by omega)) (by decide) (qBI.fn (m_bits σ (by omega)) (by decide) ?_)
    simp (disch := omega) only [nI_leI, nI_ltI, nI_eq, nI_cl, qin_eq, nI_add, nI_mul, qb_z, qb_t, qb_f, nI_ne0', Nat.reduceAdd, Bool.false_eq_true, if_false, if_true, true_and, and_true, Nat.reduceEqDiff, not_true_eq_false, not_false_eq_true, false_implies, true_implies, ite_true, ite_false]
    refine ⟨fun h2 => ?_, fun h2 => ?_⟩
    · rw [if_neg (by omega)] at st
      rw [← st]
      exact ih (by omega)
    · refine qBI.fn (m_endsAll h hw (by omega)) (by decide) ?_
      simp (disch := omega) only [nI_leI, nI_ltI, nI_eq, nI_cl, qin_eq, nI_add, nI_mul, qb_z, qb_t, qb_f, nI_ne0', Nat.reduceAdd, Bool.false_eq_true, if_false, if_true, true_and, and_true, Nat.reduceEqDiff, not_true_eq_false, not_false_eq_true, false_implies, true_implies, ite_true, ite_false]
      refine ⟨fun h3 => ?_, fun h3 => ?_⟩
      · rw [if_neg (by rw [h3]; simp)] at st
        rw [← st]
        exact ih (by omega)
      · rw [if_pos ⟨by omega, by simpa using h3⟩] at st
        have := ih (by omega)
        rw [st] at this
        exact this
-- circles
def zcq (C : zC) (s : Nat) : Nat → Nat
  | 0 => s
  | q + 1 => if zOpen C q = true ∧ zboth C q &&& zcq C s q ≠ 0 then zcq C s q ||| zboth C q else zcq C s q
def zcr (C : zC) (b : Nat) : Nat → Nat
  | 0 => 2 ^ b
  | n + 1 => zcq C (zcr C b n) (C 0 1)
def zcircle (C : zC) (b : Nat) : Nat := zcr C b 8
theorem zcq_lt {C : zC} (hw : zW C) {s : Nat} (hs : s < 256) : ∀ q, q ≤ C 0 1 → zcq C s q < 256
  | 0, _ => hs
  | q + 1, h => by
    have ih := zcq_lt hw hs q (by omega)
    simp only [zcq]
    split
    · exact Nat.or_lt_two_pow (n := 8) ih (zboth_lt hw (by omega))
    · exact ih
theorem zcr_lt {C : zC} (hw : zW C) {b : Nat} (hb : b < C 0 0) : ∀ n, zcr C b n < 256
  | 0 => zpow_lt (by have := hw.1; omega)
  | n + 1 => zcq_lt hw (zcr_lt hw hb n) _ (Nat.le_refl _)
set_option maxRecDepth 20000 in
theorem m_circleOf {σ : qSg} {C : zC} (h : zM σ 0 C) (hw : zW C) {b : Nat} (hb : b < C 0 0) : qFI 4 328 [qr 139, qi (nI b)] σ (nI (zcircle C b)) := by
  obtain ⟨wb, wq, ww1, ww2, wh1, wh2, wo, wm, wB, wQ⟩ := id hw
  refine qCI.of [some (qr 139), some (qi (nI b)), none, none, none] ok_328 (Nat.le_of_ble_eq_true rfl) rfl ?_
  refine qV.go 30 [6] ok_328 ?_
  simp only [qW_nop, qW_iconst, qW_bipush, qW_iloadn, qW_iload, qW_aloadn, qW_istoren, qW_istore, qW_iinc, qW_iand, qW_ior, qW_ishl, qW_ifeq, qW_icge, qW_goto, qW_getf, qW_iald, qW_cv2_0, qW_iret0, Nat.reduceAdd, Nat.reduceMul, Nat.reduceBEq, Nat.reduceEqDiff, Nat.reduceLT, Nat.reduceLeDiff, Nat.zero_le, nI_add, nI_mul, nI_cl, qin_eq, qofI, qlg_0, qlg_s, qls_i0, qls_r0, qls_l0, qls_1, qls_2, qkl_i, qkl_r, qkl_l, qkl_n, qIsI_i, qIsL_l, qIsR_r, qint_i, qil_i, qil_r, qil_l, qf4_0, qf4_1, qf4_2, qf4_3, qf2_0, qf2_1, qcs_n, qcs_i, qcs_r, qcs_l, qst_n, qst_c, qJ_0, qJ_st, qJ_go, qfl_I, qfl_Z, qfl_L, qfl_R, qrI_i, qrL_l, qrV_v, qRcv_0, qRcv_s, eq_self, true_and, and_true, true_or, or_true, false_and, and_false, false_or, or_false, ite_true, if_true, if_false, Bool.true_or, Bool.false_or, Bool.or_false, beq_self_eq_true, Bool.false_eq_true, bX12_circleOf_0, bX12_circleOf_6, bX12_circleOf_15, bX12_circleOf_55, bX12_circleOf_61, bX12_circleOf_67, kX12_circleOf_0, kX12_circleOf_6, kX12_circleOf_15, kX12_circleOf_55, kX12_circleOf_61, kX12_circleOf_67, qK_139, qR_139_0, qK_140, qR_139_1, qK_141, qR_139_5, qK_142, qR_139_6, qK_143, qR_139_7, qK_144, qR_139_8, qK_145, qR_139_9, qK_146, qR_139_21, qK_147, qR_139_25, qK_148, qR_139_30, qK_149, qR_139_31, qK_150, qR_139_33, qK_151, qR_139_34, qK_152, qR_139_35, qK_153, qR_139_36, qK_154, qR_139_39, qK_155, qR_139_40, qK_156, qR_139_41, qK_157]
  rw [qshl1 (by omega)]
  refine qdown (n := 8) (P := fun n => ∀ l4 : Option qPV, qV 328 4 (.inl fun r σ' => r = nI (zcircle C b) ∧ σ' = σ) 6 [some (qr 139), some (qi (nI b)), some (qi (nI (zcr C b n))), some (qi (nI n)), l4] [] σ) (fun n hn ih => ?_) 0 (Nat.zero_le _) _
  intro l4
  have hl := zcr_lt hw hb n
  have hs : zcr C b (n + 1) = zcq C (zcr C b n) (C 0 1) := rfl
  have hfin : n = 8 → zcircle C b = zcr C b n := fun e => by rw [e]; rfl
  generalize zcr C b n = S at hl hs hfin ⊢
  refine qV.go 30 [6, 15] ok_328 ?_
  simp only [qW_nop, qW_iconst, qW_bipush, qW_iloadn, qW_iload, qW_aloadn, qW_istoren, qW_istore, qW_iinc, qW_iand, qW_ior, qW_ishl, qW_ifeq, qW_icge, qW_goto, qW_getf, qW_iald, qW_cv2_0, qW_iret0, Nat.reduceAdd, Nat.reduceMul, Nat.reduceBEq, Nat.reduceEqDiff, Nat.reduceLT, Nat.reduceLeDiff, Nat.zero_le, nI_add, nI_mul, nI_cl, qin_eq, qofI, qlg_0, qlg_s, qls_i0, qls_r0, qls_l0, qls_1, qls_2, qkl_i, qkl_r, qkl_l, qkl_n, qIsI_i, qIsL_l, qIsR_r, qint_i, qil_i, qil_r, qil_l, qf4_0, qf4_1, qf4_2, qf4_3, qf2_0, qf2_1, qcs_n, qcs_i, qcs_r, qcs_l, qst_n, qst_c, qJ_0, qJ_st, qJ_go, qfl_I, qfl_Z, qfl_L, qfl_R, qrI_i, qrL_l, qrV_v, qRcv_0, qRcv_s, eq_self, true_and, and_true, true_or, or_true, false_and, and_false, false_or, or_false, ite_true, if_true, if_false, Bool.true_or, Bool.false_or, Bool.or_false, beq_self_eq_true, Bool.false_eq_true, bX12_circleOf_0, bX12_circleOf_6, bX12_circleOf_15, bX12_circleOf_55, bX12_circleOf_61, bX12_circleOf_67, kX12_circleOf_0, kX12_circleOf_6, kX12_circleOf_15, kX12_circleOf_55, kX12_circleOf_61, kX12_circleOf_67, qK_139, qR_139_0, qK_140, qR_139_1, qK_141, qR_139_5, qK_142, qR_139_6, qK_143, qR_139_7, qK_144, qR_139_8, qK_145, qR_139_9, qK_146, qR_139_21, qK_147, qR_139_25, qK_148, qR_139_30, qK_149, qR_139_31, qK_150, qR_139_33, qK_151, qR_139_34, qK_152, qR_139_35, qK_153, qR_139_36, qK_154, qR_139_39, qK_155, qR_139_40, qK_156, qR_139_41, qK_157]
  simp (disch := omega) only [nI_leI, nI_ltI, nI_eq, nI_cl, qin_eq, nI_add, nI_mul, qb_z, qb_t, qb_f, nI_ne0', Nat.reduceAdd, Bool.false_eq_true, if_false, if_true, true_and, and_true, Nat.reduceEqDiff, not_true_eq_false, not_false_eq_true, false_implies, true_implies, ite_true, ite_false]
  refine ⟨fun h1 => ?_, fun h1 => ?_⟩
  · rw [hfin (by omega)]
  · refine qdown (n := C 0 1) (P := fun q => qV 328 4 (.inl fun r σ' => r = nI (zcircle C b) ∧ σ' = σ) 15 [some (qr 139), some (qi (nI b)), some (qi (nI (zcq C S q))), some (qi (nI n)), some (qi (nI q))] [] σ) (fun q hq ih2 => ?_) 0 (Nat.zero_le _)
    have hl2 := zcq_lt hw hl q hq
    have hs2 : zcq C S (q + 1) = if zOpen C q = true ∧ zboth C q &&& zcq C S q ≠ 0 then zcq C S q ||| zboth C q else zcq C S q := rfl
    have hfin2 : q = C 0 1 → zcr C b (n + 1) = zcq C S q := fun e => by rw [e]; exact hs
    generalize zcq C S q = U at hl2 hs2 hfin2 ⊢
    refine qV.go 30 [6, 15] ok_328 ?_
    simp only [qW_nop, qW_iconst, qW_bipush, qW_iloadn, qW_iload, qW_aloadn, qW_istoren, qW_istore, qW_iinc, qW_iand, qW_ior, qW_ishl, qW_ifeq, qW_icge, qW_goto, qW_getf, qW_iald, qW_cv2_0, qW_iret0, Nat.reduceAdd, Nat.reduceMul, Nat.reduceBEq, Nat.reduceEqDiff, Nat.reduceLT, Nat.reduceLeDiff, Nat.zero_le, nI_add, nI_mul, nI_cl, qin_eq, qofI, qlg_0, qlg_s, qls_i0, qls_r0, qls_l0, qls_1, qls_2, qkl_i, qkl_r, qkl_l, qkl_n, qIsI_i, qIsL_l, qIsR_r, qint_i, qil_i, qil_r, qil_l, qf4_0, qf4_1, qf4_2, qf4_3, qf2_0, qf2_1, qcs_n, qcs_i, qcs_r, qcs_l, qst_n, qst_c, qJ_0, qJ_st, qJ_go, qfl_I, qfl_Z, qfl_L, qfl_R, qrI_i, qrL_l, qrV_v, qRcv_0, qRcv_s, eq_self, true_and, and_true, true_or, or_true, false_and, and_false, false_or, or_false, ite_true, if_true, if_false, Bool.true_or, Bool.false_or, Bool.or_false, beq_self_eq_true, Bool.false_eq_true, bX12_circleOf_0, bX12_circleOf_6, bX12_circleOf_15, bX12_circleOf_55, bX12_circleOf_61, bX12_circleOf_67, kX12_circleOf_0, kX12_circleOf_6, kX12_circleOf_15, kX12_circleOf_55, kX12_circleOf_61, kX12_circleOf_67, qK_139, qR_139_0, qK_140, qR_139_1, qK_141, qR_139_5, qK_142, qR_139_6, qK_143, qR_139_7, qK_144, qR_139_8, qK_145, qR_139_9, qK_146, qR_139_21, qK_147, qR_139_25, qK_148, qR_139_30, qK_149, qR_139_31, qK_150, qR_139_33, qK_151, qR_139_34, qK_152, qR_139_35, qK_153, qR_139_36, qK_154, qR_139_39, qK_155, qR_139_40, qK_156, qR_139_41, qK_157]
    rw [zM_s h 1 (by decide)]
    simp (disch := omega) only [nI_leI, nI_ltI, nI_eq, nI_cl, qin_eq, nI_add, nI_mul, qb_z, qb_t, qb_f, nI_ne0', Nat.reduceAdd, Bool.false_eq_true, if_false, if_true, true_and, and_true, Nat.reduceEqDiff, not_true_eq_false, not_false_eq_true, false_implies, true_implies, ite_true, ite_false]
    refine ⟨fun h2 => ?_, fun h2 => ?_⟩
    · rw [← hfin2 (by omega)]
      exact ih (by omega) _
    · have hq1 : q < C 0 1 := by omega
      have hlb := zboth_lt hw hq1
      refine qBI.fn (m_isOpen h hw hq1) (by decide) ?_
      simp (disch := omega) only [nI_leI, nI_ltI, nI_eq, nI_cl, qin_eq, nI_add, nI_mul, qb_z, qb_t, qb_f, nI_ne0', Nat.reduceAdd, Bool.false_eq_true, if_false, if_true, true_and, and_true, Nat.reduceEqDiff, not_true_eq_false, not_false_eq_true, false_implies, true_implies, ite_true, ite_false]
      refine ⟨fun h3 => ?_, fun h3 => ?_⟩
      · rw [if_neg (by rw [h3]; simp)] at hs2
        rw [← hs2]; exact ih2 hq1
      · refine qBI.fn (m_both h hw hq1) (by decide) ?_
        have h3' : zOpen C q = true := by simpa using h3
        have hl3 := zand_lt (b := U) hlb
        rw [nI_and]
        simp (disch := omega) only [nI_leI, nI_ltI, nI_eq, nI_cl, qin_eq, nI_add, nI_mul, qb_z, qb_t, qb_f, nI_ne0', Nat.reduceAdd, Bool.false_eq_true, if_false, if_true, true_and, and_true, Nat.reduceEqDiff, not_true_eq_false, not_false_eq_true, false_implies, true_implies, ite_true, ite_false]
        refine ⟨fun h4 => ?_, fun h4 => ?_⟩
        · rw [if_neg (by simp [h4])] at hs2
          rw [← hs2]; exact ih2 hq1
        · rw [if_pos ⟨h3', h4⟩] at hs2
          refine qBI.fn (m_both h hw hq1) (by decide) ?_
          rw [nI_or, ← hs2]; exact ih2 hq1
def zside (C : zC) (s : Nat) : Bool := zall (fun q => !(zOpen C q) || decide (zpop (zboth C q &&& s) = 1)) (C 0 1)
set_option maxRecDepth 20000 in
theorem m_isSide {σ : qSg} {C : zC} (h : zM σ 0 C) (hw : zW C) {s : Nat} (hs : s < 2147483648) : qFI 4 331 [qr 139, qi (nI s)] σ (qb (zside C s)) := by
  obtain ⟨wb, wq, ww1, ww2, wh1, wh2, wo, wm, wB, wQ⟩ := id hw
  refine qCI.of [some (qr 139), some (qi (nI s)), none] ok_331 (Nat.le_of_ble_eq_true rfl) rfl ?_
  refine qV.go 30 [2] ok_331 ?_
  simp only [qW_nop, qW_iconst, qW_iloadn, qW_aloadn, qW_istoren, qW_iinc, qW_iand, qW_ifeq, qW_iceq, qW_icge, qW_goto, qW_getf, qW_iald, qW_cs1_0, qW_cv2_0, qW_iret1, Nat.reduceAdd, Nat.reduceMul, Nat.reduceBEq, Nat.reduceEqDiff, Nat.reduceLT, Nat.reduceLeDiff, Nat.zero_le, nI_add, nI_mul, nI_cl, qin_eq, qofI, qlg_0, qlg_s, qls_i0, qls_r0, qls_l0, qls_1, qls_2, qkl_i, qkl_r, qkl_l, qkl_n, qIsI_i, qIsL_l, qIsR_r, qint_i, qil_i, qil_r, qil_l, qf4_0, qf4_1, qf4_2, qf4_3, qf2_0, qf2_1, qcs_n, qcs_i, qcs_r, qcs_l, qst_n, qst_c, qJ_0, qJ_st, qJ_go, qfl_I, qfl_Z, qfl_L, qfl_R, qrI_i, qrL_l, qrV_v, qRcv_0, qRcv_s, eq_self, true_and, and_true, true_or, or_true, false_and, and_false, false_or, or_false, ite_true, if_true, if_false, Bool.true_or, Bool.false_or, Bool.or_false, beq_self_eq_true, Bool.false_eq_true, bX12_isSide_0, bX12_isSide_2, bX12_isSide_36, bX12_isSide_42, kX12_isSide_0, kX12_isSide_2, kX12_isSide_36, kX12_isSide_42, qK_139, qR_139_0, qK_140, qR_139_1, qK_141, qR_139_5, qK_142, qR_139_6, qK_143, qR_139_7, qK_144, qR_139_8, qK_145, qR_139_9, qK_146, qR_139_21, qK_147, qR_139_25, qK_148, qR_139_30, qK_149, qR_139_31, qK_150, qR_139_33, qK_151, qR_139_34, qK_152, qR_139_35, qK_153, qR_139_36, qK_154, qR_139_39, qK_155, qR_139_40, qK_156, qR_139_41, qK_157]
  refine qdown (n := C 0 1) (P := fun q => zall (fun q => !(zOpen C q) || decide (zpop (zboth C q &&& s) = 1)) q = true → qV 331 4 _ 2 [some (qr 139), some (qi (nI s)), some (qi (nI q))] [] σ) (fun q hq ih => ?_) 0 (Nat.zero_le _) rfl
  intro hp
  refine qV.go 30 [2] ok_331 ?_
  simp only [qW_nop, qW_iconst, qW_iloadn, qW_aloadn, qW_istoren, qW_iinc, qW_iand, qW_ifeq, qW_iceq, qW_icge, qW_goto, qW_getf, qW_iald, qW_cs1_0, qW_cv2_0, qW_iret1, Nat.reduceAdd, Nat.reduceMul, Nat.reduceBEq, Nat.reduceEqDiff, Nat.reduceLT, Nat.reduceLeDiff, Nat.zero_le, nI_add, nI_mul, nI_cl, qin_eq, qofI, qlg_0, qlg_s, qls_i0, qls_r0, qls_l0, qls_1, qls_2, qkl_i, qkl_r, qkl_l, qkl_n, qIsI_i, qIsL_l, qIsR_r, qint_i, qil_i, qil_r, qil_l, qf4_0, qf4_1, qf4_2, qf4_3, qf2_0, qf2_1, qcs_n, qcs_i, qcs_r, qcs_l, qst_n, qst_c, qJ_0, qJ_st, qJ_go, qfl_I, qfl_Z, qfl_L, qfl_R, qrI_i, qrL_l, qrV_v, qRcv_0, qRcv_s, eq_self, true_and, and_true, true_or, or_true, false_and, and_false, false_or, or_false, ite_true, if_true, if_false, Bool.true_or, Bool.false_or, Bool.or_false, beq_self_eq_true, Bool.false_eq_true, bX12_isSide_0, bX12_isSide_2, bX12_isSide_36, bX12_isSide_42, kX12_isSide_0, kX12_isSide_2, kX12_isSide_36, kX12_isSide_42, qK_139, qR_139_0, qK_140, qR_139_1, qK_141, qR_139_5, qK_142, qR_139_6, qK_143, qR_139_7, qK_144, qR_139_8, qK_145, qR_139_9, qK_146, qR_139_21, qK_147, qR_139_25, qK_148, qR_139_30, qK_149, qR_139_31, qK_150, qR_139_33, qK_151, qR_139_34, qK_152, qR_139_35, qK_153, qR_139_36, qK_154, qR_139_39, qK_155, qR_139_40, qK_156, qR_139_41, qK_157]
  rw [zM_s h 1 (by decide)]
  simp (disch := omega) only [nI_leI, nI_ltI, nI_eq, nI_cl, qin_eq, nI_add, nI_mul, qb_z, qb_t, qb_f, nI_ne0', Nat.reduceAdd, Bool.false_eq_true, if_false, if_true, true_and, and_true, Nat.reduceEqDiff, not_true_eq_false, not_false_eq_true, false_implies, true_implies, ite_true, ite_false]
  refine ⟨fun h1 => ?_, fun h1 => ?_⟩
  · have e : q = C 0 1 := by omega
    subst e
    unfold zside
    rw [hp]
    simp (disch := omega) only [nI_leI, nI_ltI, nI_eq, nI_cl, qin_eq, nI_add, nI_mul, qb_z, qb_t, qb_f, nI_ne0', Nat.reduceAdd, Bool.false_eq_true, if_false, if_true, true_and, and_true, Nat.reduceEqDiff, not_true_eq_false, not_false_eq_true, false_implies, true_implies, ite_true, ite_false]
  · have hq1 : q < C 0 1 := by omega
    have hl := zboth_lt hw hq1
    refine qBI.fn (m_isOpen h hw hq1) (by decide) ?_
    simp (disch := omega) only [nI_leI, nI_ltI, nI_eq, nI_cl, qin_eq, nI_add, nI_mul, qb_z, qb_t, qb_f, nI_ne0', Nat.reduceAdd, Bool.false_eq_true, if_false, if_true, true_and, and_true, Nat.reduceEqDiff, not_true_eq_false, not_false_eq_true, false_implies, true_implies, ite_true, ite_false]
    refine ⟨fun h2 => ?_, fun h2 => ?_⟩
    · exact ih hq1 (by simp only [zall, hp, h2]; rfl)
    · refine qBI.fn (m_both h hw hq1) (by decide) ?_
      have hl2 := zand_lt (b := s) hl
      have hl3 := zpop_le (n := zboth C q &&& s) (k := 8) (by omega)
      rw [nI_and]
      refine qBI.fn (m_bits σ (by omega)) (by decide) ?_
      simp (disch := omega) only [nI_leI, nI_ltI, nI_eq, nI_cl, qin_eq, nI_add, nI_mul, qb_z, qb_t, qb_f, nI_ne0', Nat.reduceAdd, Bool.false_eq_true, if_false, if_true, true_and, and_true, Nat.reduceEqDiff, not_true_eq_false, not_false_eq_true, false_implies, true_implies, ite_true, ite_false]
      have h2' : zOpen C q = true := by simpa using h2
      refine ⟨fun h3 => ?_, fun h3 => ?_⟩
      · exact ih hq1 (by simp only [zall, hp, h2']; simp [h3])
      · have : zside C s = false := by
          cases hz : zside C s with
          | false => rfl
          | true =>
            have := (zall_iff _ _).mp hz q hq1
            simp [h2', h3] at this
        rw [this]
        exact rfl
