/-! the reference's calls: yields, pitches, what is taught -/
theorem zgf_0 {C : zC} {b : Nat} (h : zof C b = 0) : ∀ q, q ≤ C 0 1 → zgf b C q = C
  | 0, _ => rfl
  | q + 1, hq => by
    have ih := zgf_0 h q (by omega)
    simp only [zgf, ih]
    rw [if_neg]
    rintro ⟨h1, h2⟩
    have := bm_bit (C 0 1) (fun q => zOpen C q && zin C q b) q
    unfold zof at h
    rw [h, Nat.zero_testBit] at this
    simp [show q < C 0 1 by omega, h1, h2] at this
theorem zgive_0 {C : zC} {b : Nat} (h : zof C b = 0) : zgive C b = C := zgf_0 h _ (Nat.le_refl _)
theorem zpop_0' {n : Nat} (h : n < 4294967296) : (zpop n = 0) = (n = 0) := by
  apply propext
  constructor
  · intro h0
    by_cases e : n = 0
    · exact e
    · have := zpopf_pos 32 n e (by omega)
      unfold zpop at h0
      omega
  · rintro rfl
    exact zpop_0
set_option maxRecDepth 20000 in
theorem M_forgive {σ : qSg} {A : zA} (hA : zMA σ A) (hW : zAW A) (b : Int32) : qCI 6 288 [qr 139, qi b] σ (zCall σ (yForgive A b)) := by
  have hM := hA.m
  have hw := hW.w
  have wb := hw.1
  refine qCI.of [some (qr 139), some (qi b), none] ok_288 (Nat.le_of_ble_eq_true rfl) rfl ?_
  refine qV.go 30 [9999] ok_288 ?_
  simp only [qW_nop, qW_iconst, qW_bipush, qW_iloadn, qW_aloadn, qW_istoren, qW_i2l, qW_ifne, qW_goto, qW_cv2_0, qW_iret0, Nat.reduceAdd, Nat.reduceMul, Nat.reduceBEq, Nat.reduceEqDiff, Nat.reduceLT, Nat.reduceLeDiff, Nat.zero_le, nI_add, nI_mul, nI_cl, qin_eq, qofI, qlg_0, qlg_s, qls_i0, qls_r0, qls_l0, qls_1, qls_2, qkl_i, qkl_r, qkl_l, qkl_n, qIsI_i, qIsL_l, qIsR_r, qint_i, qil_i, qil_r, qil_l, qf4_0, qf4_1, qf4_2, qf4_3, qf2_0, qf2_1, qcs_n, qcs_i, qcs_r, qcs_l, qst_n, qst_c, qJ_0, qJ_st, qJ_go, qfl_I, qfl_Z, qfl_L, qfl_R, qrI_i, qrL_l, qrV_v, qRcv_0, qRcv_s, eq_self, true_and, and_true, true_or, or_true, false_and, and_false, false_or, or_false, ite_true, if_true, if_false, Bool.true_or, Bool.false_or, Bool.or_false, beq_self_eq_true, Bool.false_eq_true, bX12_forgive_0, bX12_forgive_15, bX12_forgive_34, bX12_forgive_39, kX12_forgive_0, kX12_forgive_15, kX12_forgive_34, kX12_forgive_39, qK_139, qR_139_0, qK_140, qR_139_1, qK_141, qR_139_5, qK_142, qR_139_6, qK_143, qR_139_7, qK_144, qR_139_8, qK_145, qR_139_9, qK_146, qR_139_21, qK_147, qR_139_25, qK_148, qR_139_30, qK_149, qR_139_31, qK_150, qR_139_33, qK_151, qR_139_34, qK_152, qR_139_35, qK_153, qR_139_36, qK_154, qR_139_39, qK_155, qR_139_40, qK_156, qR_139_41, qK_157]
  refine qBI.fn (m_isBoy hM hw _) (by decide) ?_
  rw [zrl_i]
  simp (disch := omega) only [nI_leI, nI_ltI, nI_eq, nI_cl, qin_eq, nI_add, nI_mul, qb_z, qb_t, qb_f, nI_ne0', Nat.reduceAdd, Bool.false_eq_true, if_false, if_true, true_and, and_true, Nat.reduceEqDiff, not_true_eq_false, not_false_eq_true, false_implies, true_implies, ite_true, ite_false]
  refine ⟨fun g => ?_, fun g => ?_⟩
  · have hb : zrg b (aC A 0 0) = true := by simpa using g
    obtain ⟨i, hi, rfl⟩ := zrg_nI hb
    have hof := zof_lt hw i
    have eY : yForgive A (nI i) = if zof (aC A) i = 0 then yNo A 7 else yOk (sC A (zgive (aC A) i)) (nI (zpop (zof (aC A) i))) := by
      unfold yForgive
      rw [if_neg (by rw [hb]; decide), nI_tn (by omega)]
    rw [eY]
    refine qBI.of (m_forgives hM hw hi) (by decide) (fun r σ1 g3 => ?_)
    obtain ⟨rfl, a1, f1⟩ := g3
    have hp : zpop (zof (aC A) i) ≤ 10 := zpop_le (k := 10) hof
    simp (disch := omega) only [nI_leI, nI_ltI, nI_eq, nI_cl, qin_eq, nI_add, nI_mul, qb_z, qb_t, qb_f, nI_ne0', Nat.reduceAdd, Bool.false_eq_true, if_false, if_true, true_and, and_true, Nat.reduceEqDiff, not_true_eq_false, not_false_eq_true, false_implies, true_implies, ite_true, ite_false]
    rw [zpop_0' (by omega)]
    refine ⟨fun h0 => ?_, fun h0 => ?_⟩
    · rw [if_neg h0]
      exact e_ok (hA.c hW (zPc_m f1) a1 (zgive_q _ _ _ _ (by decide) (by decide))) (hW.c (zgive_W hw i) (by rw [zgive_q _ _ _ _ (by decide) (by decide)]; exact hW.1.2.1) (fun j _ _ _ => zgive_q _ _ _ _ (by decide) (by decide))) (zRf_c f1) (by decide) rfl
    · rw [if_pos h0]
      rw [zgive_0 h0] at a1
      have := hA.c hW (zPc_m f1) a1 rfl
      exact e_no this hW (zRf_c f1) (by decide) rfl
  · exact e_no hA hW zRef.rf (by decide) (by unfold yForgive; rw [if_pos g]; rfl)
set_option maxRecDepth 20000 in
theorem M_pitch {σ : qSg} {A : zA} (hA : zMA σ A) (hW : zAW A) (b c : Int32) : qCI 4 290 [qr 139, qi b, qi c] σ (zCall σ (yPitch A b c)) := by
  have hM := hA.m
  have hw := hW.w
  have wb := hw.1
  have hc := zSW_cells hw
  refine qCI.of [some (qr 139), some (qi b), some (qi c), none] ok_290 (Nat.le_of_ble_eq_true rfl) rfl ?_
  refine qV.go 30 [17] ok_290 ?_
  simp only [qW_nop, qW_iconst, qW_bipush, qW_iloadn, qW_aloadn, qW_istoren, qW_i2l, qW_ifeq, qW_ifne, qW_goto, qW_cv2_0, qW_cv3_0, qW_iret0, Nat.reduceAdd, Nat.reduceMul, Nat.reduceBEq, Nat.reduceEqDiff, Nat.reduceLT, Nat.reduceLeDiff, Nat.zero_le, nI_add, nI_mul, nI_cl, qin_eq, qofI, qlg_0, qlg_s, qls_i0, qls_r0, qls_l0, qls_1, qls_2, qkl_i, qkl_r, qkl_l, qkl_n, qIsI_i, qIsL_l, qIsR_r, qint_i, qil_i, qil_r, qil_l, qf4_0, qf4_1, qf4_2, qf4_3, qf2_0, qf2_1, qcs_n, qcs_i, qcs_r, qcs_l, qst_n, qst_c, qJ_0, qJ_st, qJ_go, qfl_I, qfl_Z, qfl_L, qfl_R, qrI_i, qrL_l, qrV_v, qRcv_0, qRcv_s, eq_self, true_and, and_true, true_or, or_true, false_and, and_false, false_or, or_false, ite_true, if_true, if_false, Bool.true_or, Bool.false_or, Bool.or_false, beq_self_eq_true, Bool.false_eq_true, bX12_pitch_0, bX12_pitch_17, bX12_pitch_23, bX12_pitch_47, bX12_pitch_53, kX12_pitch_0, kX12_pitch_17, kX12_pitch_23, kX12_pitch_47, kX12_pitch_53, qK_139, qR_139_0, qK_140, qR_139_1, qK_141, qR_139_5, qK_142, qR_139_6, qK_143, qR_139_7, qK_144, qR_139_8, qK_145, qR_139_9, qK_146, qR_139_21, qK_147, qR_139_25, qK_148, qR_139_30, qK_149, qR_139_31, qK_150, qR_139_33, qK_151, qR_139_34, qK_152, qR_139_35, qK_153, qR_139_36, qK_154, qR_139_39, qK_155, qR_139_40, qK_156, qR_139_41, qK_157]
  refine qBI.fn (m_isBoy hM hw _) (by decide) ?_
  rw [zrl_i]
  simp (disch := omega) only [nI_leI, nI_ltI, nI_eq, nI_cl, qin_eq, nI_add, nI_mul, qb_z, qb_t, qb_f, nI_ne0', Nat.reduceAdd, Bool.false_eq_true, if_false, if_true, true_and, and_true, Nat.reduceEqDiff, not_true_eq_false, not_false_eq_true, false_implies, true_implies, ite_true, ite_false]
  have no : (zrg b (aC A 0 0) && zrg c (aC A 0 2 * aC A 0 3)) = false → qV 290 4 (.inl (zCall σ (yPitch A b c))) 17 [some (qr 139), some (qi b), some (qi c), none] [] σ := by
    intro hz
    refine qV.go 30 [9999] ok_290 ?_
    simp only [qW_nop, qW_iconst, qW_bipush, qW_iloadn, qW_aloadn, qW_istoren, qW_i2l, qW_ifeq, qW_ifne, qW_goto, qW_cv2_0, qW_cv3_0, qW_iret0, Nat.reduceAdd, Nat.reduceMul, Nat.reduceBEq, Nat.reduceEqDiff, Nat.reduceLT, Nat.reduceLeDiff, Nat.zero_le, nI_add, nI_mul, nI_cl, qin_eq, qofI, qlg_0, qlg_s, qls_i0, qls_r0, qls_l0, qls_1, qls_2, qkl_i, qkl_r, qkl_l, qkl_n, qIsI_i, qIsL_l, qIsR_r, qint_i, qil_i, qil_r, qil_l, qf4_0, qf4_1, qf4_2, qf4_3, qf2_0, qf2_1, qcs_n, qcs_i, qcs_r, qcs_l, qst_n, qst_c, qJ_0, qJ_st, qJ_go, qfl_I, qfl_Z, qfl_L, qfl_R, qrI_i, qrL_l, qrV_v, qRcv_0, qRcv_s, eq_self, true_and, and_true, true_or, or_true, false_and, and_false, false_or, or_false, ite_true, if_true, if_false, Bool.true_or, Bool.false_or, Bool.or_false, beq_self_eq_true, Bool.false_eq_true, bX12_pitch_0, bX12_pitch_17, bX12_pitch_23, bX12_pitch_47, bX12_pitch_53, kX12_pitch_0, kX12_pitch_17, kX12_pitch_23, kX12_pitch_47, kX12_pitch_53, qK_139, qR_139_0, qK_140, qR_139_1, qK_141, qR_139_5, qK_142, qR_139_6, qK_143, qR_139_7, qK_144, qR_139_8, qK_145, qR_139_9, qK_146, qR_139_21, qK_147, qR_139_25, qK_148, qR_139_30, qK_149, qR_139_31, qK_150, qR_139_33, qK_151, qR_139_34, qK_152, qR_139_35, qK_153, qR_139_36, qK_154, qR_139_39, qK_155, qR_139_40, qK_156, qR_139_41, qK_157]
    exact e_no hA hW zRef.rf (by decide) (by unfold yPitch; rw [if_pos hz]; rfl)
  refine ⟨fun h1 => no (by rw [h1]; rfl), fun h1 => ?_⟩
  have h1 : zrg b (aC A 0 0) = true := by simpa using h1
  refine qBI.fn (m_isCell hM hw _) (by decide) ?_
  simp (disch := omega) only [nI_leI, nI_ltI, nI_eq, nI_cl, qin_eq, nI_add, nI_mul, qb_z, qb_t, qb_f, nI_ne0', Nat.reduceAdd, Bool.false_eq_true, if_false, if_true, true_and, and_true, Nat.reduceEqDiff, not_true_eq_false, not_false_eq_true, false_implies, true_implies, ite_true, ite_false]
  refine ⟨fun h2 => ?_, fun h2 => no (by rw [h2, Bool.and_false])⟩
  have h2 : zrg c (aC A 0 2 * aC A 0 3) = true := by simpa using h2
  have eY : yPitch A b c = if aC A 1 b.toInt.toNat = c.toInt.toNat then yNo A 7 else yOk (sC A (zu (aC A) 1 b.toInt.toNat c.toInt.toNat)) (nI (aC A 1 b.toInt.toNat)) := by
    unfold yPitch
    rw [if_neg (by rw [h1, h2]; decide)]
  rw [eY]
  obtain ⟨i, hi, rfl⟩ := zrg_nI h1
  obtain ⟨k, hk, rfl⟩ := zrg_nI h2
  rw [nI_tn (by omega), nI_tn (by omega)]
  refine qBI.fn (m_boyOf σ (by omega)) (by decide) ?_
  rw [zMb0 hM hi]
  refine qBI.of (m_pitches hM hw hi (c := k) (by omega)) (by decide) (fun r σ1 g3 => ?_)
  obtain ⟨rfl, a1, f1⟩ := g3
  have e0 : zu (aC A) 1 i k 0 0 = aC A 0 0 := zu_ne (by omega)
  by_cases e : aC A 1 i = k
  · rw [if_pos e, decide_eq_false (fun h => h e)]
    have es : zu (aC A) 1 i k = aC A := by rw [← e]; exact zu_self
    rw [es] at a1
    have q5 : (qb false = 0) = True := by rw [qb_z]; simp
    simp only [q5, true_implies, not_true_eq_false, false_implies, and_true]
    exact e_no (hA.c hW (zPc_m f1) a1 rfl) hW (zRf_c f1) (by decide) rfl
  · rw [if_neg e, decide_eq_true e]
    have q5 : (qb true = 0) = False := by rw [qb_z]; simp
    simp only [q5, true_implies, not_false_eq_true, false_implies, true_and]
    exact e_ok (hA.c hW (zPc_m f1) a1 e0) (hW.c (zu1_W hw hk) (by rw [zu_ne (by omega)]; exact hW.1.2.1) (fun j _ _ _ => zu_ne (by omega))) (zRf_c f1) (by decide) rfl
theorem zut_W {C : zC} (hw : zW C) {f b v : Nat} (hf : f = 2 ∨ f = 3 ∨ f = 4) (h1 : f = 2 → 1 ≤ v ∧ v ≤ 30) (h2 : f ≠ 2 → v ≤ 9) : zW (zu C f b v) := by
  obtain ⟨wb, wq, ww1, ww2, wh1, wh2, wo, wm, wB, wQ⟩ := id hw
  have e0 : ∀ i, zu C f b v 0 i = C 0 i := fun i => zu_ne (by omega)
  refine ⟨?_, ?_, ?_, ?_, ?_, ?_, ?_, ?_, fun i hi => ?_, fun q hq => ?_⟩
  · rw [e0]; exact wb
  · rw [e0]; exact wq
  · rw [e0]; exact ww1
  · rw [e0]; exact ww2
  · rw [e0]; exact wh1
  · rw [e0]; exact wh2
  · rw [e0]; exact wo
  · rw [e0]; exact wm
  · rw [e0] at hi
    rw [e0, e0]
    have := wB i hi
    have c1 : zu C f b v 1 i = C 1 i := zu_ne (by omega)
    have c2 : zu C f b v 2 i = if f = 2 ∧ i = b then v else C 2 i := by
      unfold zu
      by_cases g : f = 2 ∧ i = b
      · rw [if_pos g, if_pos (by omega)]
      · rw [if_neg g, if_neg (by omega)]
    have c3 : zu C f b v 3 i = if f = 3 ∧ i = b then v else C 3 i := by
      unfold zu
      by_cases g : f = 3 ∧ i = b
      · rw [if_pos g, if_pos (by omega)]
      · rw [if_neg g, if_neg (by omega)]
    have c4 : zu C f b v 4 i = if f = 4 ∧ i = b then v else C 4 i := by
      unfold zu
      by_cases g : f = 4 ∧ i = b
      · rw [if_pos g, if_pos (by omega)]
      · rw [if_neg g, if_neg (by omega)]
    rw [c1, c2, c3, c4]
    refine ⟨this.1, ?_, ?_, ?_, ?_⟩
    · split
      · next g => exact (h1 g.1).1
      · exact this.2.1
    · split
      · next g => exact (h1 g.1).2
      · exact this.2.2.1
    · split
      · next g => exact h2 (by omega)
      · exact this.2.2.2.1
    · split
      · next g => exact h2 (by omega)
      · exact this.2.2.2.2
  · rw [e0] at hq
    rw [e0]
    have c6 : zu C f b v 6 q = C 6 q := zu_ne (by omega)
    have c7 : zu C f b v 7 q = C 7 q := zu_ne (by omega)
    have c8 : zu C f b v 8 q = C 8 q := zu_ne (by omega)
    have c9 : zu C f b v 9 q = C 9 q := zu_ne (by omega)
    rw [c6, c7, c8, c9]
    exact wQ q hq
set_option maxRecDepth 20000 in
theorem M_teach {σ : qSg} {A : zA} (hA : zMA σ A) (hW : zAW A) (b w m : Int32) : qCI 2 291 [qr 139, qi b, qi w, qi m] σ (zCall σ (yTeach A b w m)) := by
  have hM := hA.m
  have hw := hW.w
  have wb := hw.1
  refine qCI.of [some (qr 139), some (qi b), some (qi w), some (qi m)] ok_291 (Nat.le_of_ble_eq_true rfl) rfl ?_
  refine qV.go 30 [19, 25, 63] ok_291 ?_
  simp only [qW_nop, qW_iconst, qW_ldc2, qW_lconst, qW_iloadn, qW_aloadn, qW_iadd, qW_i2l, qW_ifeq, qW_ifne, qW_icne, qW_iclt, qW_icle, qW_goto, qW_getf, qW_iast, qW_cs1_0, qW_cs3_0, qW_cv2_0, qW_iret1, Nat.reduceAdd, Nat.reduceMul, Nat.reduceBEq, Nat.reduceEqDiff, Nat.reduceLT, Nat.reduceLeDiff, Nat.zero_le, nI_add, nI_mul, nI_cl, qin_eq, qofI, qlg_0, qlg_s, qls_i0, qls_r0, qls_l0, qls_1, qls_2, qkl_i, qkl_r, qkl_l, qkl_n, qIsI_i, qIsL_l, qIsR_r, qint_i, qil_i, qil_r, qil_l, qf4_0, qf4_1, qf4_2, qf4_3, qf2_0, qf2_1, qcs_n, qcs_i, qcs_r, qcs_l, qst_n, qst_c, qJ_0, qJ_st, qJ_go, qfl_I, qfl_Z, qfl_L, qfl_R, qrI_i, qrL_l, qrV_v, qRcv_0, qRcv_s, eq_self, true_and, and_true, true_or, or_true, false_and, and_false, false_or, or_false, ite_true, if_true, if_false, Bool.true_or, Bool.false_or, Bool.or_false, beq_self_eq_true, Bool.false_eq_true, bX12_teach_0, bX12_teach_19, bX12_teach_25, bX12_teach_36, bX12_teach_37, bX12_teach_48, bX12_teach_51, bX12_teach_63, kX12_teach_0, kX12_teach_19, kX12_teach_25, kX12_teach_36, kX12_teach_37, kX12_teach_48, kX12_teach_51, kX12_teach_63, qK_139, qR_139_0, qK_140, qR_139_1, qK_141, qR_139_5, qK_142, qR_139_6, qK_143, qR_139_7, qK_144, qR_139_8, qK_145, qR_139_9, qK_146, qR_139_21, qK_147, qR_139_25, qK_148, qR_139_30, qK_149, qR_139_31, qK_150, qR_139_33, qK_151, qR_139_34, qK_152, qR_139_35, qK_153, qR_139_36, qK_154, qR_139_39, qK_155, qR_139_40, qK_156, qR_139_41, qK_157]
  refine qBI.fn (m_isBoy hM hw _) (by decide) ?_
  rw [zrl_i]
  simp (disch := omega) only [nI_leI, nI_ltI, nI_eq, nI_cl, qin_eq, nI_add, nI_mul, qb_z, qb_t, qb_f, nI_ne0', Nat.reduceAdd, Bool.false_eq_true, if_false, if_true, true_and, and_true, Nat.reduceEqDiff, not_true_eq_false, not_false_eq_true, false_implies, true_implies, ite_true, ite_false]
  have no : (zrg b (aC A 0 0) && zih w 1 3) = false → qV 291 2 (.inl (zCall σ (yTeach A b w m))) 19 [some (qr 139), some (qi b), some (qi w), some (qi m)] [] σ := by
    intro hz
    refine qV.go 30 [9999] ok_291 ?_
    simp only [qW_nop, qW_iconst, qW_ldc2, qW_lconst, qW_iloadn, qW_aloadn, qW_iadd, qW_i2l, qW_ifeq, qW_ifne, qW_icne, qW_iclt, qW_icle, qW_goto, qW_getf, qW_iast, qW_cs1_0, qW_cs3_0, qW_cv2_0, qW_iret1, Nat.reduceAdd, Nat.reduceMul, Nat.reduceBEq, Nat.reduceEqDiff, Nat.reduceLT, Nat.reduceLeDiff, Nat.zero_le, nI_add, nI_mul, nI_cl, qin_eq, qofI, qlg_0, qlg_s, qls_i0, qls_r0, qls_l0, qls_1, qls_2, qkl_i, qkl_r, qkl_l, qkl_n, qIsI_i, qIsL_l, qIsR_r, qint_i, qil_i, qil_r, qil_l, qf4_0, qf4_1, qf4_2, qf4_3, qf2_0, qf2_1, qcs_n, qcs_i, qcs_r, qcs_l, qst_n, qst_c, qJ_0, qJ_st, qJ_go, qfl_I, qfl_Z, qfl_L, qfl_R, qrI_i, qrL_l, qrV_v, qRcv_0, qRcv_s, eq_self, true_and, and_true, true_or, or_true, false_and, and_false, false_or, or_false, ite_true, if_true, if_false, Bool.true_or, Bool.false_or, Bool.or_false, beq_self_eq_true, Bool.false_eq_true, bX12_teach_0, bX12_teach_19, bX12_teach_25, bX12_teach_36, bX12_teach_37, bX12_teach_48, bX12_teach_51, bX12_teach_63, kX12_teach_0, kX12_teach_19, kX12_teach_25, kX12_teach_36, kX12_teach_37, kX12_teach_48, kX12_teach_51, kX12_teach_63, qK_139, qR_139_0, qK_140, qR_139_1, qK_141, qR_139_5, qK_142, qR_139_6, qK_143, qR_139_7, qK_144, qR_139_8, qK_145, qR_139_9, qK_146, qR_139_21, qK_147, qR_139_25, qK_148, qR_139_30, qK_149, qR_139_31, qK_150, qR_139_33, qK_151, qR_139_34, qK_152, qR_139_35, qK_153, qR_139_36, qK_154, qR_139_39, qK_155, qR_139_40, qK_156, qR_139_41, qK_157]
    exact e_is hA hW zRef.rf (by decide) (by decide) (by unfold yTeach; rw [if_pos hz]; rfl)
  simp only [qlt, qle, nI_t (show 1 < 2147483648 by decide), nI_t (show 3 < 2147483648 by decide)]
  refine ⟨fun h1 => no (by rw [h1]; rfl), fun h1 => ⟨fun h2 => no (by simp [zih]; omega), fun h2 => ⟨fun h3 => ?_, fun h3 => no (by simp [zih]; omega)⟩⟩⟩
  have h1 : zrg b (aC A 0 0) = true := by simpa using h1
  have h2 : zih w 1 3 = true := by simp [zih]; omega
  obtain ⟨i, hi, rfl⟩ := zrg_nI h1
  obtain ⟨k, hk1, hk, rfl⟩ := zih_nI h2
  have eY : yTeach A (nI i) (nI k) m = if zih m (if k = 1 then 1 else 0) (if k = 1 then 30 else 9) = false then yF A 1 else yT (sC A (zu (aC A) (1 + k) i m.toInt.toNat)) := by
    unfold yTeach
    rw [if_neg (by rw [h1, h2]; decide), nI_tn (by omega), nI_tn (by omega)]
  rw [eY]
  have bad : ∀ {lo up : Nat}, (if k = 1 then 1 else 0) = lo → (if k = 1 then 30 else 9) = up → zih m lo up = false → qBI 2 213 [qr 139, qi (nI 1)] σ (fun r σ' => (r = nI 0 ∨ r = nI 1) ∧ zCall σ (if zih m (if k = 1 then 1 else 0) (if k = 1 then 30 else 9) = false then yF A 1 else yT (sC A (zu (aC A) (1 + k) i m.toInt.toNat))) r σ') := by
    intro lo up e1 e2 h
    refine e_is hA hW zRef.rf (by decide) (by decide) ?_
    rw [e1, e2, if_pos h]
    rfl
  have good : ∀ {lo up : Nat}, (if k = 1 then 1 else 0) = lo → (if k = 1 then 30 else 9) = up → zih m lo up = true → qV 291 2 (.inl (zCall σ (if zih m (if k = 1 then 1 else 0) (if k = 1 then 30 else 9) = false then yF A 1 else yT (sC A (zu (aC A) (1 + k) i m.toInt.toNat))))) 63 [some (qr 139), some (qi (nI i)), some (qi (nI k)), some (qi m)] [] σ := by
    intro lo up e1 e2 h
    rw [e1, e2, if_neg (by rw [h]; decide)]
    have hh : up ≤ 30 := by split at e2 <;> omega
    obtain ⟨v, v1, v2, rfl⟩ := zih_nI h
    rw [nI_tn (by omega)]
    refine qV.go 30 [9999] ok_291 ?_
    simp only [qW_nop, qW_iconst, qW_ldc2, qW_lconst, qW_iloadn, qW_aloadn, qW_iadd, qW_i2l, qW_ifeq, qW_ifne, qW_icne, qW_iclt, qW_icle, qW_goto, qW_getf, qW_iast, qW_cs1_0, qW_cs3_0, qW_cv2_0, qW_iret1, Nat.reduceAdd, Nat.reduceMul, Nat.reduceBEq, Nat.reduceEqDiff, Nat.reduceLT, Nat.reduceLeDiff, Nat.zero_le, nI_add, nI_mul, nI_cl, qin_eq, qofI, qlg_0, qlg_s, qls_i0, qls_r0, qls_l0, qls_1, qls_2, qkl_i, qkl_r, qkl_l, qkl_n, qIsI_i, qIsL_l, qIsR_r, qint_i, qil_i, qil_r, qil_l, qf4_0, qf4_1, qf4_2, qf4_3, qf2_0, qf2_1, qcs_n, qcs_i, qcs_r, qcs_l, qst_n, qst_c, qJ_0, qJ_st, qJ_go, qfl_I, qfl_Z, qfl_L, qfl_R, qrI_i, qrL_l, qrV_v, qRcv_0, qRcv_s, eq_self, true_and, and_true, true_or, or_true, false_and, and_false, false_or, or_false, ite_true, if_true, if_false, Bool.true_or, Bool.false_or, Bool.or_false, beq_self_eq_true, Bool.false_eq_true, bX12_teach_0, bX12_teach_19, bX12_teach_25, bX12_teach_36, bX12_teach_37, bX12_teach_48, bX12_teach_51, bX12_teach_63, kX12_teach_0, kX12_teach_19, kX12_teach_25, kX12_teach_36, kX12_teach_37, kX12_teach_48, kX12_teach_51, kX12_teach_63, qK_139, qR_139_0, qK_140, qR_139_1, qK_141, qR_139_5, qK_142, qR_139_6, qK_143, qR_139_7, qK_144, qR_139_8, qK_145, qR_139_9, qK_146, qR_139_21, qK_147, qR_139_25, qK_148, qR_139_30, qK_149, qR_139_31, qK_150, qR_139_33, qK_151, qR_139_34, qK_152, qR_139_35, qK_153, qR_139_36, qK_154, qR_139_39, qK_155, qR_139_40, qK_156, qR_139_41, qK_157]
    refine qBI.fn (m_boyRow σ _) (by decide) ?_
    simp only [nI_mul, nI_add]
    simp (disch := omega) only [nI_leI, nI_ltI, nI_eq, nI_cl, qin_eq, nI_add, nI_mul, qb_z, qb_t, qb_f, nI_ne0', Nat.reduceAdd, Bool.false_eq_true, if_false, if_true, true_and, and_true, Nat.reduceEqDiff, not_true_eq_false, not_false_eq_true, false_implies, true_implies, ite_true, ite_false]
    have hm := zM_wb hM hw (b := i) (f := k) (v := v) hi (by omega)
    have f1 : zF zPc σ (qwi σ 140 (8 + 5 * i + k) (nI v)) := zF.wi ⟨rfl, by omega, by omega⟩
    have e0 : zu (aC A) (1 + k) i v 0 0 = aC A 0 0 := zu_ne (by omega)
    refine e_is (hA.c hW (zPc_m f1) hm e0) (hW.c (zut_W hw (by omega) (fun h => ?_) (fun h => ?_)) (by rw [zu_ne (by omega)]; exact hW.1.2.1) (fun j _ _ _ => zu_ne (by omega))) (zRf_c f1) (by decide) (by decide) rfl
    · rw [if_pos (by omega)] at e1 e2; omega
    · rw [if_neg (by omega)] at e2; omega
  by_cases e1 : k = 1
  · subst e1
    refine qV.go 30 [63] ok_291 ?_
    simp only [qW_nop, qW_iconst, qW_ldc2, qW_lconst, qW_iloadn, qW_aloadn, qW_iadd, qW_i2l, qW_ifeq, qW_ifne, qW_icne, qW_iclt, qW_icle, qW_goto, qW_getf, qW_iast, qW_cs1_0, qW_cs3_0, qW_cv2_0, qW_iret1, Nat.reduceAdd, Nat.reduceMul, Nat.reduceBEq, Nat.reduceEqDiff, Nat.reduceLT, Nat.reduceLeDiff, Nat.zero_le, nI_add, nI_mul, nI_cl, qin_eq, qofI, qlg_0, qlg_s, qls_i0, qls_r0, qls_l0, qls_1, qls_2, qkl_i, qkl_r, qkl_l, qkl_n, qIsI_i, qIsL_l, qIsR_r, qint_i, qil_i, qil_r, qil_l, qf4_0, qf4_1, qf4_2, qf4_3, qf2_0, qf2_1, qcs_n, qcs_i, qcs_r, qcs_l, qst_n, qst_c, qJ_0, qJ_st, qJ_go, qfl_I, qfl_Z, qfl_L, qfl_R, qrI_i, qrL_l, qrV_v, qRcv_0, qRcv_s, eq_self, true_and, and_true, true_or, or_true, false_and, and_false, false_or, or_false, ite_true, if_true, if_false, Bool.true_or, Bool.false_or, Bool.or_false, beq_self_eq_true, Bool.false_eq_true, bX12_teach_0, bX12_teach_19, bX12_teach_25, bX12_teach_36, bX12_teach_37, bX12_teach_48, bX12_teach_51, bX12_teach_63, kX12_teach_0, kX12_teach_19, kX12_teach_25, kX12_teach_36, kX12_teach_37, kX12_teach_48, kX12_teach_51, kX12_teach_63, qK_139, qR_139_0, qK_140, qR_139_1, qK_141, qR_139_5, qK_142, qR_139_6, qK_143, qR_139_7, qK_144, qR_139_8, qK_145, qR_139_9, qK_146, qR_139_21, qK_147, qR_139_25, qK_148, qR_139_30, qK_149, qR_139_31, qK_150, qR_139_33, qK_151, qR_139_34, qK_152, qR_139_35, qK_153, qR_139_36, qK_154, qR_139_39, qK_155, qR_139_40, qK_156, qR_139_41, qK_157]
    simp (disch := omega) only [nI_leI, nI_ltI, nI_eq, nI_cl, qin_eq, nI_add, nI_mul, qb_z, qb_t, qb_f, nI_ne0', Nat.reduceAdd, Bool.false_eq_true, if_false, if_true, true_and, and_true, Nat.reduceEqDiff, not_true_eq_false, not_false_eq_true, false_implies, true_implies, ite_true, ite_false]
    refine qBI.fn (m_isFrom' σ _ (lo := 1) (hi := 30) (by decide) (by decide)) (by decide) ?_
    rw [zlh_i]
    simp (disch := omega) only [nI_leI, nI_ltI, nI_eq, nI_cl, qin_eq, nI_add, nI_mul, qb_z, qb_t, qb_f, nI_ne0', Nat.reduceAdd, Bool.false_eq_true, if_false, if_true, true_and, and_true, Nat.reduceEqDiff, not_true_eq_false, not_false_eq_true, false_implies, true_implies, ite_true, ite_false]
    exact ⟨fun h => good rfl rfl (by simpa using h), fun h => bad rfl rfl h⟩
  · refine qV.go 30 [63] ok_291 ?_
    simp only [qW_nop, qW_iconst, qW_ldc2, qW_lconst, qW_iloadn, qW_aloadn, qW_iadd, qW_i2l, qW_ifeq, qW_ifne, qW_icne, qW_iclt, qW_icle, qW_goto, qW_getf, qW_iast, qW_cs1_0, qW_cs3_0, qW_cv2_0, qW_iret1, Nat.reduceAdd, Nat.reduceMul, Nat.reduceBEq, Nat.reduceEqDiff, Nat.reduceLT, Nat.reduceLeDiff, Nat.zero_le, nI_add, nI_mul, nI_cl, qin_eq, qofI, qlg_0, qlg_s, qls_i0, qls_r0, qls_l0, qls_1, qls_2, qkl_i, qkl_r, qkl_l, qkl_n, qIsI_i, qIsL_l, qIsR_r, qint_i, qil_i, qil_r, qil_l, qf4_0, qf4_1, qf4_2, qf4_3, qf2_0, qf2_1, qcs_n, qcs_i, qcs_r, qcs_l, qst_n, qst_c, qJ_0, qJ_st, qJ_go, qfl_I, qfl_Z, qfl_L, qfl_R, qrI_i, qrL_l, qrV_v, qRcv_0, qRcv_s, eq_self, true_and, and_true, true_or, or_true, false_and, and_false, false_or, or_false, ite_true, if_true, if_false, Bool.true_or, Bool.false_or, Bool.or_false, beq_self_eq_true, Bool.false_eq_true, bX12_teach_0, bX12_teach_19, bX12_teach_25, bX12_teach_36, bX12_teach_37, bX12_teach_48, bX12_teach_51, bX12_teach_63, kX12_teach_0, kX12_teach_19, kX12_teach_25, kX12_teach_36, kX12_teach_37, kX12_teach_48, kX12_teach_51, kX12_teach_63, qK_139, qR_139_0, qK_140, qR_139_1, qK_141, qR_139_5, qK_142, qR_139_6, qK_143, qR_139_7, qK_144, qR_139_8, qK_145, qR_139_9, qK_146, qR_139_21, qK_147, qR_139_25, qK_148, qR_139_30, qK_149, qR_139_31, qK_150, qR_139_33, qK_151, qR_139_34, qK_152, qR_139_35, qK_153, qR_139_36, qK_154, qR_139_39, qK_155, qR_139_40, qK_156, qR_139_41, qK_157]
    simp (disch := omega) only [nI_leI, nI_ltI, nI_eq, nI_cl, qin_eq, nI_add, nI_mul, qb_z, qb_t, qb_f, nI_ne0', Nat.reduceAdd, Bool.false_eq_true, if_false, if_true, true_and, and_true, Nat.reduceEqDiff, not_true_eq_false, not_false_eq_true, false_implies, true_implies, ite_true, ite_false]
    refine ⟨fun _ => ⟨fun _ => ?_, fun hh => absurd hh e1⟩, fun hh => absurd hh e1⟩
    refine qBI.fn (m_isFrom' σ _ (lo := 0) (hi := 9) (by decide) (by decide)) (by decide) ?_
    rw [zlh_i]
    simp (disch := omega) only [nI_leI, nI_ltI, nI_eq, nI_cl, qin_eq, nI_add, nI_mul, qb_z, qb_t, qb_f, nI_ne0', Nat.reduceAdd, Bool.false_eq_true, if_false, if_true, true_and, and_true, Nat.reduceEqDiff, not_true_eq_false, not_false_eq_true, false_implies, true_implies, ite_true, ite_false]
    exact ⟨fun h => good (if_neg e1) (if_neg e1) (by simpa using h), fun h => bad (if_neg e1) (if_neg e1) h⟩
