/-! the reference: dawns, yields, what lies ahead -/
-- a quarrel's row copied to another's
def zrow (C : zC) (l q : Nat) : zC := fun g j => if 6 ≤ g ∧ g ≤ 9 ∧ j = l then C g q else C g j
def zdf (C : zC) : Nat → zC × Nat
  | 0 => (C, 0)
  | q + 1 => if zOpen (zdf C q).1 q = true then (zrow (zdf C q).1 (zdf C q).2 q, (zdf C q).2 + 1) else zdf C q
/-- a dawn: the camp, how many are struck -/
def zdawn (C : zC) : zC × Nat := (zu (zu (zdf C (C 0 1)).1 0 1 (zdf C (C 0 1)).2) 0 5 0, C 0 1 - (zdf C (C 0 1)).2)
theorem zrow_lo {C : zC} {l q f i : Nat} (h : f < 6) : zrow C l q f i = C f i := if_neg (by omega)
theorem zdf_le (C : zC) : ∀ q, (zdf C q).2 ≤ q
  | 0 => Nat.le_refl _
  | q + 1 => by
    have ih := zdf_le C q
    simp only [zdf]
    split
    · show (zdf C q).2 + 1 ≤ q + 1
      omega
    · omega
theorem zdf_lo (C : zC) (f i : Nat) (h : f < 6) : ∀ q, (zdf C q).1 f i = C f i
  | 0 => rfl
  | q + 1 => by
    have ih := zdf_lo C f i h q
    simp only [zdf]
    split
    · show zrow _ _ _ f i = _
      rw [zrow_lo h]; exact ih
    · exact ih
theorem zrow_W {C : zC} (hw : zW C) {l q : Nat} (hq : q < C 0 1) : zW (zrow C l q) := by
  obtain ⟨wb, wq, ww1, ww2, wh1, wh2, wo, wm, wB, wQ⟩ := id hw
  have e : ∀ f i, f < 6 → zrow C l q f i = C f i := fun f i h => zrow_lo h
  refine ⟨?_, ?_, ?_, ?_, ?_, ?_, ?_, ?_, fun b hb => ?_, fun q1 hq1 => ?_⟩
  · rw [e 0 _ (by decide)]; exact wb
  · rw [e 0 _ (by decide)]; exact wq
  · rw [e 0 _ (by decide)]; exact ww1
  · rw [e 0 _ (by decide)]; exact ww2
  · rw [e 0 _ (by decide)]; exact wh1
  · rw [e 0 _ (by decide)]; exact wh2
  · rw [e 0 _ (by decide)]; exact wo
  · rw [e 0 _ (by decide)]; exact wm
  · rw [e 0 _ (by decide)] at hb
    rw [e 0 _ (by decide), e 0 _ (by decide), e 1 _ (by decide), e 2 _ (by decide), e 3 _ (by decide), e 4 _ (by decide)]
    exact wB b hb
  · rw [e 0 _ (by decide)] at hq1 ⊢
    by_cases h1 : q1 = l
    · simp only [zrow, if_pos (show 6 ≤ 6 ∧ 6 ≤ 9 ∧ q1 = l by omega), if_pos (show 6 ≤ 7 ∧ 7 ≤ 9 ∧ q1 = l by omega), if_pos (show 6 ≤ 8 ∧ 8 ≤ 9 ∧ q1 = l by omega), if_pos (show 6 ≤ 9 ∧ 9 ≤ 9 ∧ q1 = l by omega)]
      exact wQ q hq
    · simp only [zrow, if_neg (show ¬ (6 ≤ 6 ∧ 6 ≤ 9 ∧ q1 = l) by omega), if_neg (show ¬ (6 ≤ 7 ∧ 7 ≤ 9 ∧ q1 = l) by omega), if_neg (show ¬ (6 ≤ 8 ∧ 8 ≤ 9 ∧ q1 = l) by omega), if_neg (show ¬ (6 ≤ 9 ∧ 9 ≤ 9 ∧ q1 = l) by omega)]
      exact wQ q1 hq1
theorem zdf_W {C : zC} (hw : zW C) : ∀ q, q ≤ C 0 1 → zW (zdf C q).1
  | 0, _ => hw
  | q + 1, h => by
    have ih := zdf_W hw q (by omega)
    simp only [zdf]
    split
    · exact zrow_W ih (by rw [zdf_lo _ _ _ (by decide)]; omega)
    · exact ih
theorem zdawn_W {C : zC} (hw : zW C) : zW (zdawn C).1 := by
  obtain ⟨wb, wq, ww1, ww2, wh1, wh2, wo, wm, wB, wQ⟩ := zdf_W hw (C 0 1) (Nat.le_refl _)
  have hl := zdf_le C (C 0 1)
  have hq : (zdf C (C 0 1)).1 0 1 = C 0 1 := zdf_lo _ _ _ (by decide) _
  unfold zdawn
  generalize zdf C (C 0 1) = S at *
  have e : ∀ f i, f ≠ 0 → zu (zu S.1 0 1 S.2) 0 5 0 f i = S.1 f i := fun f i h => by rw [zu_ne (by omega), zu_ne (by omega)]
  have e0 : ∀ i, i ≠ 1 → i ≠ 5 → zu (zu S.1 0 1 S.2) 0 5 0 0 i = S.1 0 i := fun i h h5 => by rw [zu_ne (by omega), zu_ne (by omega)]
  have e1 : zu (zu S.1 0 1 S.2) 0 5 0 0 1 = S.2 := by rw [zu_ne (by omega), zu_eq]
  have e5 : zu (zu S.1 0 1 S.2) 0 5 0 0 5 = 0 := zu_eq
  show zW (zu (zu S.1 0 1 S.2) 0 5 0)
  refine ⟨?_, ?_, ?_, ?_, ?_, ?_, ?_, ?_, fun b hb => ?_, fun q1 hq1 => ?_⟩
  · rw [e0 0 (by decide) (by decide)]; exact wb
  · rw [e1]; omega
  · rw [e0 2 (by decide) (by decide)]; exact ww1
  · rw [e0 2 (by decide) (by decide)]; exact ww2
  · rw [e0 3 (by decide) (by decide)]; exact wh1
  · rw [e0 3 (by decide) (by decide)]; exact wh2
  · rw [e0 4 (by decide) (by decide)]; exact wo
  · rw [e5]; omega
  · rw [e0 0 (by decide) (by decide)] at hb
    rw [e0 2 (by decide) (by decide), e0 3 (by decide) (by decide), e 1 _ (by decide), e 2 _ (by decide), e 3 _ (by decide), e 4 _ (by decide)]
    exact wB b hb
  · rw [e1] at hq1
    rw [e0 0 (by decide) (by decide), e 6 _ (by decide), e 7 _ (by decide), e 8 _ (by decide), e 9 _ (by decide)]
    exact wQ q1 (by omega)
-- yields
def zgf (b : Nat) (C : zC) : Nat → zC
  | 0 => C
  | q + 1 => if zOpen (zgf b C q) q = true ∧ zin (zgf b C q) q b = true then zend (zgf b C q) q (if zgf b C q 6 q = b then 1 else 2) else zgf b C q
/-- a boy yields -/
def zgive (C : zC) (b : Nat) : zC := zgf b C (C 0 1)
theorem zgf_q (b : Nat) (C : zC) (f i : Nat) (h9 : f ≠ 9) (h5 : f ≠ 5) : ∀ q, zgf b C q f i = C f i
  | 0 => rfl
  | q + 1 => by
    have ih := zgf_q b C f i h9 h5 q
    simp only [zgf]
    split
    · rw [zend_q _ _ _ _ _ h9 h5]; exact ih
    · exact ih
theorem zgf_9 (b : Nat) (C : zC) (i : Nat) : ∀ q, q ≤ i → zgf b C q 9 i = C 9 i
  | 0, _ => rfl
  | q + 1, h => by
    have ih := zgf_9 b C i q (by omega)
    simp only [zgf]
    split
    · rw [zend_9, if_neg (by omega)]; exact ih
    · exact ih
theorem zgf_W {C : zC} (hw : zW C) (b : Nat) : ∀ q, zW (zgf b C q)
  | 0 => hw
  | q + 1 => by
    have ih := zgf_W hw b q
    simp only [zgf]
    split
    · exact zW_end ih (by split <;> omega)
    · exact ih
theorem zgive_W {C : zC} (hw : zW C) (b : Nat) : zW (zgive C b) := zgf_W hw b _
theorem zgive_q (C : zC) (b f i : Nat) (h9 : f ≠ 9) (h5 : f ≠ 5) : zgive C b f i = C f i := zgf_q b C f i h9 h5 _
set_option maxRecDepth 20000 in
theorem m_forgives {σ : qSg} {C : zC} (h : zM σ 0 C) (hw : zW C) {b : Nat} (hb : b < C 0 0) : qCI 5 287 [qr 139, qi (nI b)] σ (fun r σ' => r = nI (zpop (zof C b)) ∧ zM σ' 0 (zgive C b) ∧ zF zPc σ σ') := by
  obtain ⟨wb, wq, ww1, ww2, wh1, wh2, wo, wm, wB, wQ⟩ := id hw
  have hl := zof_lt hw b
  refine qCI.of [some (qr 139), some (qi (nI b)), none, none] ok_287 (Nat.le_of_ble_eq_true rfl) rfl ?_
  refine qV.go 30 [8] ok_287 ?_
  simp only [qW_nop, qW_iconst, qW_iloadn, qW_aloadn, qW_istoren, qW_iinc, qW_ifeq, qW_icne, qW_icge, qW_goto, qW_getf, qW_iald, qW_cs1_0, qW_cv2_0, qW_cv3_0, qW_cv3_2, qW_iret0, Nat.reduceAdd, Nat.reduceMul, Nat.reduceBEq, Nat.reduceEqDiff, Nat.reduceLT, Nat.reduceLeDiff, Nat.zero_le, nI_add, nI_mul, nI_cl, qin_eq, qofI, qlg_0, qlg_s, qls_i0, qls_r0, qls_l0, qls_1, qls_2, qkl_i, qkl_r, qkl_l, qkl_n, qIsI_i, qIsL_l, qIsR_r, qint_i, qil_i, qil_r, qil_l, qf4_0, qf4_1, qf4_2, qf4_3, qf2_0, qf2_1, qcs_n, qcs_i, qcs_r, qcs_l, qst_n, qst_c, qJ_0, qJ_st, qJ_go, qfl_I, qfl_Z, qfl_L, qfl_R, qrI_i, qrL_l, qrV_v, qRcv_0, qRcv_s, eq_self, true_and, and_true, true_or, or_true, false_and, and_false, false_or, or_false, ite_true, if_true, if_false, Bool.true_or, Bool.false_or, Bool.or_false, beq_self_eq_true, Bool.false_eq_true, bX12_forgives_0, bX12_forgives_8, bX12_forgives_43, bX12_forgives_44, bX12_forgives_47, bX12_forgives_53, kX12_forgives_0, kX12_forgives_8, kX12_forgives_43, kX12_forgives_44, kX12_forgives_47, kX12_forgives_53, qK_139, qR_139_0, qK_140, qR_139_1, qK_141, qR_139_5, qK_142, qR_139_6, qK_143, qR_139_7, qK_144, qR_139_8, qK_145, qR_139_9, qK_146, qR_139_21, qK_147, qR_139_25, qK_148, qR_139_30, qK_149, qR_139_31, qK_150, qR_139_33, qK_151, qR_139_34, qK_152, qR_139_35, qK_153, qR_139_36, qK_154, qR_139_39, qK_155, qR_139_40, qK_156, qR_139_41, qK_157]
  refine qBI.fn (m_openOf h hw hb) (by decide) ?_
  refine qdown (n := C 0 1) (P := fun q => ∀ σ1, zM σ1 0 (zgf b C q) → zF zPc σ σ1 → qV 287 5 (.inl fun r σ' => r = nI (zpop (zof C b)) ∧ zM σ' 0 (zgive C b) ∧ zF zPc σ σ') 8 [some (qr 139), some (qi (nI b)), some (qi (nI (zof C b))), some (qi (nI q))] [] σ1) (fun q hq ih => ?_) 0 (Nat.zero_le _) σ h zF.rf
  intro σ1 a1 f1
  have w1 := zgf_W hw b q
  have e01 := zgf_q b C 0 1 (by decide) (by decide) q
  have e00 := zgf_q b C 0 0 (by decide) (by decide) q
  have e6 := zgf_q b C 6 q (by decide) (by decide) q
  have e7 := zgf_q b C 7 q (by decide) (by decide) q
  have e9 := zgf_9 b C q q (Nat.le_refl _)
  have hs : zgf b C (q + 1) = if zOpen (zgf b C q) q = true ∧ zin (zgf b C q) q b = true then zend (zgf b C q) q (if zgf b C q 6 q = b then 1 else 2) else zgf b C q := rfl
  have hfin : q = C 0 1 → zgive C b = zgf b C q := fun e => by rw [e]; rfl
  generalize zgf b C q = S at a1 w1 e01 e00 e6 e7 e9 hs hfin
  refine qV.go 30 [8] ok_287 ?_
  simp only [qW_nop, qW_iconst, qW_iloadn, qW_aloadn, qW_istoren, qW_iinc, qW_ifeq, qW_icne, qW_icge, qW_goto, qW_getf, qW_iald, qW_cs1_0, qW_cv2_0, qW_cv3_0, qW_cv3_2, qW_iret0, Nat.reduceAdd, Nat.reduceMul, Nat.reduceBEq, Nat.reduceEqDiff, Nat.reduceLT, Nat.reduceLeDiff, Nat.zero_le, nI_add, nI_mul, nI_cl, qin_eq, qofI, qlg_0, qlg_s, qls_i0, qls_r0, qls_l0, qls_1, qls_2, qkl_i, qkl_r, qkl_l, qkl_n, qIsI_i, qIsL_l, qIsR_r, qint_i, qil_i, qil_r, qil_l, qf4_0, qf4_1, qf4_2, qf4_3, qf2_0, qf2_1, qcs_n, qcs_i, qcs_r, qcs_l, qst_n, qst_c, qJ_0, qJ_st, qJ_go, qfl_I, qfl_Z, qfl_L, qfl_R, qrI_i, qrL_l, qrV_v, qRcv_0, qRcv_s, eq_self, true_and, and_true, true_or, or_true, false_and, and_false, false_or, or_false, ite_true, if_true, if_false, Bool.true_or, Bool.false_or, Bool.or_false, beq_self_eq_true, Bool.false_eq_true, bX12_forgives_0, bX12_forgives_8, bX12_forgives_43, bX12_forgives_44, bX12_forgives_47, bX12_forgives_53, kX12_forgives_0, kX12_forgives_8, kX12_forgives_43, kX12_forgives_44, kX12_forgives_47, kX12_forgives_53, qK_139, qR_139_0, qK_140, qR_139_1, qK_141, qR_139_5, qK_142, qR_139_6, qK_143, qR_139_7, qK_144, qR_139_8, qK_145, qR_139_9, qK_146, qR_139_21, qK_147, qR_139_25, qK_148, qR_139_30, qK_149, qR_139_31, qK_150, qR_139_33, qK_151, qR_139_34, qK_152, qR_139_35, qK_153, qR_139_36, qK_154, qR_139_39, qK_155, qR_139_40, qK_156, qR_139_41, qK_157]
  rw [zM_s a1 1 (by decide), e01]
  simp (disch := omega) only [nI_leI, nI_ltI, nI_eq, nI_cl, qin_eq, nI_add, nI_mul, qb_z, qb_t, qb_f, nI_ne0', Nat.reduceAdd, Bool.false_eq_true, if_false, if_true, true_and, and_true, Nat.reduceEqDiff, not_true_eq_false, not_false_eq_true, false_implies, true_implies, ite_true, ite_false]
  refine ⟨fun h1 => ?_, fun h1 => ?_⟩
  · refine qBI.fn (m_bits σ1 (by omega)) (by decide) ?_
    rw [hfin (by omega)]
    exact ⟨rfl, a1, f1⟩
  · have hq1 : q < C 0 1 := by omega
    have g := wQ q hq1
    refine qBI.fn (m_isIn σ1 (by omega) (by omega)) (by decide) ?_
    have eb : (zof C b).testBit q = (zOpen S q && zin S q b) := by
      unfold zof
      rw [bm_bit]
      simp [hq1, zOpen, zin, e6, e7, e9]
    rw [eb]
    simp (disch := omega) only [nI_leI, nI_ltI, nI_eq, nI_cl, qin_eq, nI_add, nI_mul, qb_z, qb_t, qb_f, nI_ne0', Nat.reduceAdd, Bool.false_eq_true, if_false, if_true, true_and, and_true, Nat.reduceEqDiff, not_true_eq_false, not_false_eq_true, false_implies, true_implies, ite_true, ite_false]
    refine ⟨fun h2 => ?_, fun h2 => ?_⟩
    · rw [if_neg (by intro hh; rw [hh.1, hh.2] at h2; exact absurd h2 (by decide))] at hs
      have := ih hq1 σ1
      rw [hs] at this
      exact this a1 f1
    · have h2' : zOpen S q = true ∧ zin S q b = true := by simpa using h2
      rw [if_pos h2'] at hs
      refine qBI.fn (m_quarrelOf σ1 (by omega)) (by decide) ?_
      rw [zMq0 a1 (by omega)]
      simp (disch := omega) only [nI_leI, nI_ltI, nI_eq, nI_cl, qin_eq, nI_add, nI_mul, qb_z, qb_t, qb_f, nI_ne0', Nat.reduceAdd, Bool.false_eq_true, if_false, if_true, true_and, and_true, Nat.reduceEqDiff, not_true_eq_false, not_false_eq_true, false_implies, true_implies, ite_true, ite_false]
      refine ⟨fun h3 => ?_, fun h3 => ?_⟩
      · rw [if_neg h3] at hs
        refine qBV.of (m_ends a1 w1 (by omega) (by decide)) (by decide) (fun σ2 h4 => ?_)
        have := ih hq1 σ2
        rw [hs] at this
        exact this h4.1 (f1.tr h4.2)
      · rw [if_pos h3] at hs
        refine qBV.of (m_ends a1 w1 (by omega) (by decide)) (by decide) (fun σ2 h4 => ?_)
        have := ih hq1 σ2
        rw [hs] at this
        exact this h4.1 (f1.tr h4.2)
-- keeping the camp, trying, taking back
def zPk (t a j : Nat) : Prop := (a = 140 ∧ t ≤ j ∧ j < t + 88) ∨ (a = 139 ∧ j = 24)
theorem zkeep_M {σ : qSg} {C : zC} (h : zM σ 0 C) (hw : zW C) {t : Nat} (ht : 88 ≤ t) : zM (zmv σ 140 0 t 88) 0 C := by
  refine h.keep hw fun j hj => ?_
  simp only [zmv]
  exact if_neg (by omega)
theorem zback {σ σ2 : qSg} {t : Nat} (ht : 88 ≤ t) (f : zF zPm (zmv σ 140 0 t 88) σ2) : zF (zPk t) σ (zmv σ2 140 t 0 88) := by
  refine ⟨fun a j hp => ?_, f.2⟩
  simp only [zmv]
  by_cases e : a = 140 ∧ 0 ≤ j ∧ j < 0 + 88
  · obtain ⟨rfl, e1, e2⟩ := e
    rw [if_pos ⟨rfl, e1, e2⟩, f.1 _ _ (by unfold zPm; omega)]
    simp only [zmv, true_and]
    rw [if_pos (by omega), show 0 + (t + (j - 0) - t) = j by omega]
  · rw [if_neg e, f.1 a j (by unfold zPm; unfold zPk at hp; omega)]
    simp only [zmv]
    rw [if_neg (by unfold zPk at hp; omega)]
/-- behind how many minutes all are up -/
def zbrk (C : zC) : Nat := zupn C (2 ^ C 0 0 - 1)
theorem zall_bit {n i : Nat} (h : (2 ^ n - 1).testBit i = true) : i < n := by
  rw [Nat.testBit_two_pow_sub_one] at h
  simpa using h
theorem zall_lt {C : zC} (hw : zW C) : 2 ^ C 0 0 - 1 < 2147483648 := by
  have : 2 ^ C 0 0 ≤ 2 ^ 8 := Nat.pow_le_pow_right (by decide) hw.1
  omega
set_option maxRecDepth 20000 in
theorem m_breakfastNow {σ : qSg} {C : zC} (h : zM σ 0 C) (hw : zW C) (hm : C 0 5 ≤ 99000) : qCI 8 304 [qr 139] σ (fun r σ' => r = nI (zbrk C) ∧ zF (zPk 2280) σ σ') := by
  refine qCI.of [some (qr 139), none] ok_304 (Nat.le_of_ble_eq_true rfl) rfl ?_
  refine qV.go 30 [9999] ok_304 ?_
  simp only [qW_nop, qW_sipush, qW_iloadn, qW_aloadn, qW_istoren, qW_cv1_0, qW_cv2_0, qW_cv2_2, qW_iret0, Nat.reduceAdd, Nat.reduceMul, Nat.reduceBEq, Nat.reduceEqDiff, Nat.reduceLT, Nat.reduceLeDiff, Nat.zero_le, nI_add, nI_mul, nI_cl, qin_eq, qofI, qlg_0, qlg_s, qls_i0, qls_r0, qls_l0, qls_1, qls_2, qkl_i, qkl_r, qkl_l, qkl_n, qIsI_i, qIsL_l, qIsR_r, qint_i, qil_i, qil_r, qil_l, qf4_0, qf4_1, qf4_2, qf4_3, qf2_0, qf2_1, qcs_n, qcs_i, qcs_r, qcs_l, qst_n, qst_c, qJ_0, qJ_st, qJ_go, qfl_I, qfl_Z, qfl_L, qfl_R, qrI_i, qrL_l, qrV_v, qRcv_0, qRcv_s, eq_self, true_and, and_true, true_or, or_true, false_and, and_false, false_or, or_false, ite_true, if_true, if_false, Bool.true_or, Bool.false_or, Bool.or_false, beq_self_eq_true, Bool.false_eq_true, bX12_breakfastNow_0, kX12_breakfastNow_0, qK_139, qR_139_0, qK_140, qR_139_1, qK_141, qR_139_5, qK_142, qR_139_6, qK_143, qR_139_7, qK_144, qR_139_8, qK_145, qR_139_9, qK_146, qR_139_21, qK_147, qR_139_25, qK_148, qR_139_30, qK_149, qR_139_31, qK_150, qR_139_33, qK_151, qR_139_34, qK_152, qR_139_35, qK_153, qR_139_36, qK_154, qR_139_39, qK_155, qR_139_40, qK_156, qR_139_41, qK_157]
  refine qBV.of (m_keeps σ (by decide) (by decide)) (by decide) (fun σ1 h1 => ?_)
  subst h1
  have a1 := zkeep_M h hw (t := 2280) (by decide)
  refine qBI.fn (m_everybody a1 hw) (by decide) (qBI.of (m_upOf a1 hw hm (fun i hi => zall_bit hi) (zall_lt hw)) (by decide) (fun r σ2 h2 => ?_))
  obtain ⟨rfl, a2, f2⟩ := h2
  refine qBV.of (m_restores σ2 (by decide) (by decide)) (by decide) (fun σ3 h3 => ?_)
  subst h3
  exact ⟨rfl, zback (by decide) f2⟩
set_option maxRecDepth 20000 in
theorem m_dawns {σ : qSg} {C : zC} (h : zM σ 0 C) (hw : zW C) : qCI 4 283 [qr 139] σ (fun r σ' => r = nI (zdawn C).2 ∧ zM σ' 0 (zdawn C).1 ∧ zF zPc σ σ') := by
  obtain ⟨wb, wq, ww1, ww2, wh1, wh2, wo, wm, wB, wQ⟩ := id hw
  refine qCI.of [some (qr 139), none, none, none, none] ok_283 (Nat.le_of_ble_eq_true rfl) rfl ?_
  refine qV.go 30 [11] ok_283 ?_
  simp only [qW_nop, qW_iconst, qW_iloadn, qW_iload, qW_aloadn, qW_istoren, qW_istore, qW_iinc, qW_iadd, qW_isub, qW_ifne, qW_icge, qW_goto, qW_getf, qW_iald, qW_iast, qW_cs1_0, qW_cv2_0, qW_iret0, Nat.reduceAdd, Nat.reduceMul, Nat.reduceBEq, Nat.reduceEqDiff, Nat.reduceLT, Nat.reduceLeDiff, Nat.zero_le, nI_add, nI_mul, nI_cl, qin_eq, qofI, qlg_0, qlg_s, qls_i0, qls_r0, qls_l0, qls_1, qls_2, qkl_i, qkl_r, qkl_l, qkl_n, qIsI_i, qIsL_l, qIsR_r, qint_i, qil_i, qil_r, qil_l, qf4_0, qf4_1, qf4_2, qf4_3, qf2_0, qf2_1, qcs_n, qcs_i, qcs_r, qcs_l, qst_n, qst_c, qJ_0, qJ_st, qJ_go, qfl_I, qfl_Z, qfl_L, qfl_R, qrI_i, qrL_l, qrV_v, qRcv_0, qRcv_s, eq_self, true_and, and_true, true_or, or_true, false_and, and_false, false_or, or_false, ite_true, if_true, if_false, Bool.true_or, Bool.false_or, Bool.or_false, beq_self_eq_true, Bool.false_eq_true, bX12_dawns_0, bX12_dawns_11, bX12_dawns_27, bX12_dawns_30, bX12_dawns_66, bX12_dawns_69, bX12_dawns_75, kX12_dawns_0, kX12_dawns_11, kX12_dawns_27, kX12_dawns_30, kX12_dawns_66, kX12_dawns_69, kX12_dawns_75, qK_139, qR_139_0, qK_140, qR_139_1, qK_141, qR_139_5, qK_142, qR_139_6, qK_143, qR_139_7, qK_144, qR_139_8, qK_145, qR_139_9, qK_146, qR_139_21, qK_147, qR_139_25, qK_148, qR_139_30, qK_149, qR_139_31, qK_150, qR_139_33, qK_151, qR_139_34, qK_152, qR_139_35, qK_153, qR_139_36, qK_154, qR_139_39, qK_155, qR_139_40, qK_156, qR_139_41, qK_157]
  rw [zM_s h 1 (by decide)]
  refine qdown (n := C 0 1) (P := fun q => ∀ σ1 (l4 : Option qPV), zM σ1 0 (zdf C q).1 → zF zPc σ σ1 → qV 283 4 (.inl fun r σ' => r = nI (zdawn C).2 ∧ zM σ' 0 (zdawn C).1 ∧ zF zPc σ σ') 11 [some (qr 139), some (qi (nI (zdf C q).2)), some (qi (nI (C 0 1))), some (qi (nI q)), l4] [] σ1) (fun q hq ih => ?_) 0 (Nat.zero_le _) σ none h zF.rf
  intro σ1 l4 a1 f1
  have w1 := zdf_W hw q hq
  have hle := zdf_le C q
  have e01 : (zdf C q).1 0 1 = C 0 1 := zdf_lo C 0 1 (by decide) q
  have hs : zdf C (q + 1) = if zOpen (zdf C q).1 q = true then (zrow (zdf C q).1 (zdf C q).2 q, (zdf C q).2 + 1) else zdf C q := rfl
  have hfin : q = C 0 1 → zdawn C = (zu (zu (zdf C q).1 0 1 (zdf C q).2) 0 5 0, C 0 1 - (zdf C q).2) := fun e => by rw [e]; rfl
  generalize zdf C q = S at a1 w1 e01 hs hfin hle ⊢
  refine qV.go 30 [11, 30] ok_283 ?_
  simp only [qW_nop, qW_iconst, qW_iloadn, qW_iload, qW_aloadn, qW_istoren, qW_istore, qW_iinc, qW_iadd, qW_isub, qW_ifne, qW_icge, qW_goto, qW_getf, qW_iald, qW_iast, qW_cs1_0, qW_cv2_0, qW_iret0, Nat.reduceAdd, Nat.reduceMul, Nat.reduceBEq, Nat.reduceEqDiff, Nat.reduceLT, Nat.reduceLeDiff, Nat.zero_le, nI_add, nI_mul, nI_cl, qin_eq, qofI, qlg_0, qlg_s, qls_i0, qls_r0, qls_l0, qls_1, qls_2, qkl_i, qkl_r, qkl_l, qkl_n, qIsI_i, qIsL_l, qIsR_r, qint_i, qil_i, qil_r, qil_l, qf4_0, qf4_1, qf4_2, qf4_3, qf2_0, qf2_1, qcs_n, qcs_i, qcs_r, qcs_l, qst_n, qst_c, qJ_0, qJ_st, qJ_go, qfl_I, qfl_Z, qfl_L, qfl_R, qrI_i, qrL_l, qrV_v, qRcv_0, qRcv_s, eq_self, true_and, and_true, true_or, or_true, false_and, and_false, false_or, or_false, ite_true, if_true, if_false, Bool.true_or, Bool.false_or, Bool.or_false, beq_self_eq_true, Bool.false_eq_true, bX12_dawns_0, bX12_dawns_11, bX12_dawns_27, bX12_dawns_30, bX12_dawns_66, bX12_dawns_69, bX12_dawns_75, kX12_dawns_0, kX12_dawns_11, kX12_dawns_27, kX12_dawns_30, kX12_dawns_66, kX12_dawns_69, kX12_dawns_75, qK_139, qR_139_0, qK_140, qR_139_1, qK_141, qR_139_5, qK_142, qR_139_6, qK_143, qR_139_7, qK_144, qR_139_8, qK_145, qR_139_9, qK_146, qR_139_21, qK_147, qR_139_25, qK_148, qR_139_30, qK_149, qR_139_31, qK_150, qR_139_33, qK_151, qR_139_34, qK_152, qR_139_35, qK_153, qR_139_36, qK_154, qR_139_39, qK_155, qR_139_40, qK_156, qR_139_41, qK_157]
  simp (disch := omega) only [nI_leI, nI_ltI, nI_eq, nI_cl, qin_eq, nI_add, nI_mul, qb_z, qb_t, qb_f, nI_ne0', Nat.reduceAdd, Bool.false_eq_true, if_false, if_true, true_and, and_true, Nat.reduceEqDiff, not_true_eq_false, not_false_eq_true, false_implies, true_implies, ite_true, ite_false]
  refine ⟨fun h1 => ?_, fun h1 => ?_⟩
  · have e : q = C 0 1 := by omega
    rw [hfin e, nI_sub (by omega)]
    refine ⟨rfl, ?_, (f1.tr (zF.wi ⟨rfl, by decide⟩)).tr (zF.wi ⟨rfl, by decide⟩)⟩
    obtain ⟨xb, xq, -, -, -, -, -, -, -, -⟩ := w1
    refine ⟨fun j hj => ?_, fun b hb f hf => ?_, fun k hk f hf => ?_⟩
    · simp only [qwi_1, true_and]
      by_cases e5 : j = 5
      · subst e5; rw [if_pos (by omega)]; exact congrArg nI zu_eq.symm
      · rw [if_neg (by omega), zu_ne (by omega)]
        by_cases e1 : j = 1
        · subst e1; rw [if_pos (by omega)]; exact congrArg nI zu_eq.symm
        · rw [if_neg (by omega), zu_ne (by omega)]; exact a1.1 j hj
    · have hb' : b < S.1 0 0 := by
        have : zu (zu S.1 0 1 S.2) 0 5 0 0 0 = S.1 0 0 := by rw [zu_ne (by omega), zu_ne (by omega)]
        have hb : b < zu (zu S.1 0 1 S.2) 0 5 0 0 0 := hb
        omega
      simp only [qwi_1, true_and]
      rw [if_neg (by omega), if_neg (by omega)]
      show _ = nI (zu (zu S.1 0 1 S.2) 0 5 0 (1 + f) b)
      rw [zu_ne (by omega), zu_ne (by omega)]
      exact a1.2.1 b hb' f hf
    · have hk' : k < S.2 := by
        have : zu (zu S.1 0 1 S.2) 0 5 0 0 1 = S.2 := by rw [zu_ne (by omega), zu_eq]
        have hk : k < zu (zu S.1 0 1 S.2) 0 5 0 0 1 := hk
        omega
      simp only [qwi_1, true_and]
      rw [if_neg (by omega), if_neg (by omega)]
      show _ = nI (zu (zu S.1 0 1 S.2) 0 5 0 (6 + f) k)
      rw [zu_ne (by omega), zu_ne (by omega)]
      exact a1.2.2 k (by omega) f hf
  · have hq1 : q < C 0 1 := by omega
    refine qBI.fn (m_isOpen a1 w1 (by omega)) (by decide) ?_
    simp (disch := omega) only [nI_leI, nI_ltI, nI_eq, nI_cl, qin_eq, nI_add, nI_mul, qb_z, qb_t, qb_f, nI_ne0', Nat.reduceAdd, Bool.false_eq_true, if_false, if_true, true_and, and_true, Nat.reduceEqDiff, not_true_eq_false, not_false_eq_true, false_implies, true_implies, ite_true, ite_false]
    refine ⟨fun h2 => ?_, fun h2 => ?_⟩
    · have h2' : zOpen S.1 q = true := by simpa using h2
      rw [if_pos h2'] at hs
      refine qdown (n := 4) (P := fun k => ∀ σ2, (∀ j, σ2.1 140 j = if 48 + 4 * S.2 ≤ j ∧ j < 48 + 4 * S.2 + k then σ1.1 140 (48 + 4 * q + (j - (48 + 4 * S.2))) else σ1.1 140 j) → zF zPc σ σ2 → qV 283 4 (.inl fun r σ' => r = nI (zdawn C).2 ∧ zM σ' 0 (zdawn C).1 ∧ zF zPc σ σ') 30 [some (qr 139), some (qi (nI S.2)), some (qi (nI (C 0 1))), some (qi (nI q)), some (qi (nI k))] [] σ2) (fun k hk ih2 => ?_) 0 (Nat.zero_le _) σ1 (fun j => by rw [if_neg (by omega)]) f1
      intro σ2 a2 f2
      refine qV.go 30 [11, 30] ok_283 ?_
      simp only [qW_nop, qW_iconst, qW_iloadn, qW_iload, qW_aloadn, qW_istoren, qW_istore, qW_iinc, qW_iadd, qW_isub, qW_ifne, qW_icge, qW_goto, qW_getf, qW_iald, qW_iast, qW_cs1_0, qW_cv2_0, qW_iret0, Nat.reduceAdd, Nat.reduceMul, Nat.reduceBEq, Nat.reduceEqDiff, Nat.reduceLT, Nat.reduceLeDiff, Nat.zero_le, nI_add, nI_mul, nI_cl, qin_eq, qofI, qlg_0, qlg_s, qls_i0, qls_r0, qls_l0, qls_1, qls_2, qkl_i, qkl_r, qkl_l, qkl_n, qIsI_i, qIsL_l, qIsR_r, qint_i, qil_i, qil_r, qil_l, qf4_0, qf4_1, qf4_2, qf4_3, qf2_0, qf2_1, qcs_n, qcs_i, qcs_r, qcs_l, qst_n, qst_c, qJ_0, qJ_st, qJ_go, qfl_I, qfl_Z, qfl_L, qfl_R, qrI_i, qrL_l, qrV_v, qRcv_0, qRcv_s, eq_self, true_and, and_true, true_or, or_true, false_and, and_false, false_or, or_false, ite_true, if_true, if_false, Bool.true_or, Bool.false_or, Bool.or_false, beq_self_eq_true, Bool.false_eq_true, bX12_dawns_0, bX12_dawns_11, bX12_dawns_27, bX12_dawns_30, bX12_dawns_66, bX12_dawns_69, bX12_dawns_75, kX12_dawns_0, kX12_dawns_11, kX12_dawns_27, kX12_dawns_30, kX12_dawns_66, kX12_dawns_69, kX12_dawns_75, qK_139, qR_139_0, qK_140, qR_139_1, qK_141, qR_139_5, qK_142, qR_139_6, qK_143, qR_139_7, qK_144, qR_139_8, qK_145, qR_139_9, qK_146, qR_139_21, qK_147, qR_139_25, qK_148, qR_139_30, qK_149, qR_139_31, qK_150, qR_139_33, qK_151, qR_139_34, qK_152, qR_139_35, qK_153, qR_139_36, qK_154, qR_139_39, qK_155, qR_139_40, qK_156, qR_139_41, qK_157]
      simp (disch := omega) only [nI_leI, nI_ltI, nI_eq, nI_cl, qin_eq, nI_add, nI_mul, qb_z, qb_t, qb_f, nI_ne0', Nat.reduceAdd, Bool.false_eq_true, if_false, if_true, true_and, and_true, Nat.reduceEqDiff, not_true_eq_false, not_false_eq_true, false_implies, true_implies, ite_true, ite_false]
      refine ⟨fun h3 => ?_, fun h3 => ?_⟩
      · have ek : k = 4 := by omega
        subst ek
        have := ih hq1 σ2 (some (qi (nI 4)))
        rw [hs] at this
        refine this ?_ f2
        obtain ⟨xb, xq, -, -, -, -, -, -, -, -⟩ := w1
        refine ⟨fun j hj => ?_, fun b hb f hf => ?_, fun i hi f hf => ?_⟩
        · rw [a2, if_neg (by omega)]; exact a1.1 j hj
        · have hb' : b < S.1 0 0 := by
            have : zrow S.1 S.2 q 0 0 = S.1 0 0 := zrow_lo (by decide)
            show b < S.1 0 0
            rw [← this]; exact hb
          rw [a2, if_neg (by omega)]
          show _ = nI (zrow S.1 S.2 q (1 + f) b)
          rw [zrow_lo (by omega)]
          exact a1.2.1 b hb' f hf
        · have hi' : i < S.1 0 1 := by
            have : zrow S.1 S.2 q 0 1 = S.1 0 1 := zrow_lo (by decide)
            show i < S.1 0 1
            rw [← this]; exact hi
          rw [a2]
          show _ = nI (zrow S.1 S.2 q (6 + f) i)
          by_cases e : i = S.2
          · subst e
            have hr : zrow S.1 S.2 q (6 + f) S.2 = S.1 (6 + f) q := if_pos (by omega)
            rw [hr, if_pos (by omega), show 48 + 4 * q + (0 + (48 + 4 * S.2 + f) - (48 + 4 * S.2)) = 0 + (48 + 4 * q + f) by omega]
            exact a1.2.2 q (by omega) f hf
          · have hr : zrow S.1 S.2 q (6 + f) i = S.1 (6 + f) i := if_neg (by omega)
            rw [hr, if_neg (by omega)]
            exact a1.2.2 i hi' f hf
      · refine qBI.fn (m_quarrelRow σ2 _) (by decide) (qBI.fn (m_quarrelRow σ2 _) (by decide) ?_)
        simp only [nI_add, nI_mul]
        have w2 := w1.2.1
        simp (disch := omega) only [nI_leI, nI_ltI, nI_eq, nI_cl, qin_eq, nI_add, nI_mul, qb_z, qb_t, qb_f, nI_ne0', Nat.reduceAdd, Bool.false_eq_true, if_false, if_true, true_and, and_true, Nat.reduceEqDiff, not_true_eq_false, not_false_eq_true, false_implies, true_implies, ite_true, ite_false]
        refine ih2 (by omega) _ (fun j => ?_) (f2.tr (zF.wi ⟨rfl, by omega⟩))
        rw [qwi_1]
        by_cases e : j = 48 + 4 * S.2 + k
        · subst e
          rw [if_pos ⟨rfl, rfl⟩, if_pos (by omega), a2, if_neg (by omega), show 48 + 4 * q + (48 + 4 * S.2 + k - (48 + 4 * S.2)) = 48 + 4 * q + k by omega]
        · rw [if_neg (by omega), a2]
          by_cases e2 : 48 + 4 * S.2 ≤ j ∧ j < 48 + 4 * S.2 + k
          · rw [if_pos e2, if_pos (by omega)]
          · rw [if_neg e2, if_neg (by omega)]
    · rw [if_neg (by rw [h2]; decide)] at hs
      have := ih hq1 σ1 l4
      rw [hs] at this
      exact this a1 f1
