/-! the reference's calls: how long, who last, whom -/
theorem zMA.scr {σ σ' : qSg} {A : zA} {P : Nat → Nat → Prop} (h : zMA σ A) (hW : zAW A) (f : zF P σ σ') (hP : ∀ a j, P a j → 139 ≤ a ∧ ¬ zKp a j) : zMA σ' A ∧ zRef σ σ' := ⟨h.sm hW (zSm.f f fun a j hp => (hP a j hp).2), zRef.f f fun a j hp => (hP a j hp).1⟩
theorem zPk_s (a j : Nat) (h : zPk 2280 a j) : 139 ≤ a ∧ ¬ zKp a j := by unfold zPk at h; unfold zKp; omega
theorem zPu_s (a j : Nat) (h : zPu a j) : 139 ≤ a ∧ ¬ zKp a j := by unfold zPu at h; unfold zKp; omega
theorem zPs_s (a j : Nat) (h : zPs a j) : 139 ≤ a ∧ ¬ zKp a j := by unfold zPs at h; unfold zKp; omega
theorem zPb_s (a j : Nat) (h : zPb a j) : 139 ≤ a ∧ ¬ zKp a j := by unfold zPb at h; unfold zKp; omega
theorem e_or {σ σ1 : qSg} {A1 : zA} {Y : Int32 × zA} {v : Int32} {d : Nat} (h : zMA σ1 A1) (hW : zAW A1) (f : zRef σ σ1) (hd : 2 < d) (hY : Y = (v, sS A1 (if v = iI (-1) then 6 else 0))) : qBI d 216 [qr 139, qi v] σ1 (zCall σ Y) := by
  subst hY
  refine qBI.of (m_orNone _ _) hd (fun r σ2 g => ?_)
  obtain ⟨rfl, rfl⟩ := g
  refine ⟨rfl, ?_, f.tr zRef.st⟩
  have : (if r = iI (-1) then nI 6 else nI 0) = nI (if r = iI (-1) then 6 else 0) := by split <;> rfl
  rw [this]
  exact h.st hW _
theorem zupn_1 {C : zC} {b : Nat} (hb : b < C 0 0) : zupn C (2 ^ b) = zupb C b := by
  refine congrArg (fun p => zlst p 300 0) (funext fun n => Bool.eq_iff_iff.mpr ?_)
  rw [zsub_iff]
  constructor
  · intro h
    have := h b (by rw [Nat.testBit_two_pow]; simp)
    rw [zups_it] at this
    simp only [Bool.and_eq_true] at this
    exact this.2
  · intro h i hi
    rw [Nat.testBit_two_pow] at hi
    have : b = i := by simpa using hi
    subst this
    rw [zups_it, h]
    simp [hb]
set_option maxRecDepth 20000 in
theorem M_upIn {σ : qSg} {A : zA} (hA : zMA σ A) (hW : zAW A) (b : Int32) : qCI 8 305 [qr 139, qi b] σ (zCall σ (yUpIn A b)) := by
  have hM := hA.m
  have hw := hW.w
  have wb := hw.1
  have h5 : aC A 0 5 ≤ 9999 := hW.1.2.1
  refine qCI.of [some (qr 139), some (qi b), none] ok_305 (Nat.le_of_ble_eq_true rfl) rfl ?_
  refine qV.go 30 [9999] ok_305 ?_
  simp only [qW_nop, qW_iconst, qW_sipush, qW_iloadn, qW_aloadn, qW_istoren, qW_ishl, qW_i2l, qW_ifne, qW_cv2_0, qW_cv2_2, qW_iret0, Nat.reduceAdd, Nat.reduceMul, Nat.reduceBEq, Nat.reduceEqDiff, Nat.reduceLT, Nat.reduceLeDiff, Nat.zero_le, nI_add, nI_mul, nI_cl, qin_eq, qofI, qlg_0, qlg_s, qls_i0, qls_r0, qls_l0, qls_1, qls_2, qkl_i, qkl_r, qkl_l, qkl_n, qIsI_i, qIsL_l, qIsR_r, qint_i, qil_i, qil_r, qil_l, qf4_0, qf4_1, qf4_2, qf4_3, qf2_0, qf2_1, qcs_n, qcs_i, qcs_r, qcs_l, qst_n, qst_c, qJ_0, qJ_st, qJ_go, qfl_I, qfl_Z, qfl_L, qfl_R, qrI_i, qrL_l, qrV_v, qRcv_0, qRcv_s, eq_self, true_and, and_true, true_or, or_true, false_and, and_false, false_or, or_false, ite_true, if_true, if_false, Bool.true_or, Bool.false_or, Bool.or_false, beq_self_eq_true, Bool.false_eq_true, bX12_upIn_0, bX12_upIn_15, kX12_upIn_0, kX12_upIn_15, qK_139, qR_139_0, qK_140, qR_139_1, qK_141, qR_139_5, qK_142, qR_139_6, qK_143, qR_139_7, qK_144, qR_139_8, qK_145, qR_139_9, qK_146, qR_139_21, qK_147, qR_139_25, qK_148, qR_139_30, qK_149, qR_139_31, qK_150, qR_139_33, qK_151, qR_139_34, qK_152, qR_139_35, qK_153, qR_139_36, qK_154, qR_139_39, qK_155, qR_139_40, qK_156, qR_139_41, qK_157]
  refine qBI.fn (m_isBoy hM hw _) (by decide) ?_
  rw [zrl_i]
  simp (disch := omega) only [nI_leI, nI_ltI, nI_eq, nI_cl, qin_eq, nI_add, nI_mul, qb_z, qb_t, qb_f, nI_ne0', Nat.reduceAdd, Bool.false_eq_true, if_false, if_true, true_and, and_true, Nat.reduceEqDiff, not_true_eq_false, not_false_eq_true, false_implies, true_implies, ite_true, ite_false]
  refine ⟨fun g => ?_, fun g => e_no hA hW zRef.rf (by decide) (by unfold yUpIn; rw [if_pos g]; rfl)⟩
  have g : zrg b (aC A 0 0) = true := by simpa using g
  obtain ⟨i, hi, rfl⟩ := zrg_nI g
  have eY : yUpIn A (nI i) = yOk A (nI (zupb (aC A) i)) := by
    unfold yUpIn
    rw [if_neg (by rw [g]; decide), nI_tn (by omega)]
  rw [eY, qshl1 (by omega)]
  refine qBV.of (m_keeps σ (by decide) (by decide)) (by decide) (fun σ1 h1 => ?_)
  subst h1
  have a1 := zkeep_M hM hw (t := 2280) (by decide)
  have p8 := zpow_lt (k := i) (by omega)
  refine qBI.of (m_upOf a1 hw (by omega) (s := 2 ^ i) (fun j hj => ?_) (by omega)) (by decide) (fun r σ2 h2 => ?_)
  · rw [Nat.testBit_two_pow] at hj
    have : i = j := by simpa using hj
    omega
  obtain ⟨rfl, a2, f2⟩ := h2
  refine qBV.of (m_restores σ2 (by decide) (by decide)) (by decide) (fun σ3 h3 => ?_)
  subst h3
  have S := hA.scr hW (zback (by decide) f2) zPk_s
  rw [zupn_1 hi]
  exact e_ok S.1 hW S.2 (by decide) rfl
set_option maxRecDepth 20000 in
theorem M_upBy {σ : qSg} {A : zA} (hA : zMA σ A) (hW : zAW A) (n : Int32) : qCI 8 306 [qr 139, qi n] σ (zCall σ (yUpBy A n)) := by
  have hM := hA.m
  have hw := hW.w
  have h5 : aC A 0 5 ≤ 9999 := hW.1.2.1
  refine qCI.of [some (qr 139), some (qi n), none] ok_306 (Nat.le_of_ble_eq_true rfl) rfl ?_
  refine qV.go 30 [9999] ok_306 ?_
  simp only [qW_nop, qW_iconst, qW_sipush, qW_ldc2, qW_lconst, qW_iloadn, qW_aloadn, qW_istoren, qW_i2l, qW_pop, qW_ifne, qW_cs3_0, qW_cv1_0, qW_cv2_0, qW_cv2_2, qW_iret0, Nat.reduceAdd, Nat.reduceMul, Nat.reduceBEq, Nat.reduceEqDiff, Nat.reduceLT, Nat.reduceLeDiff, Nat.zero_le, nI_add, nI_mul, nI_cl, qin_eq, qofI, qlg_0, qlg_s, qls_i0, qls_r0, qls_l0, qls_1, qls_2, qkl_i, qkl_r, qkl_l, qkl_n, qIsI_i, qIsL_l, qIsR_r, qint_i, qil_i, qil_r, qil_l, qf4_0, qf4_1, qf4_2, qf4_3, qf2_0, qf2_1, qcs_n, qcs_i, qcs_r, qcs_l, qst_n, qst_c, qJ_0, qJ_st, qJ_go, qfl_I, qfl_Z, qfl_L, qfl_R, qrI_i, qrL_l, qrV_v, qRcv_0, qRcv_s, eq_self, true_and, and_true, true_or, or_true, false_and, and_false, false_or, or_false, ite_true, if_true, if_false, Bool.true_or, Bool.false_or, Bool.or_false, beq_self_eq_true, Bool.false_eq_true, bX12_upBy_0, bX12_upBy_18, kX12_upBy_0, kX12_upBy_18, qK_139, qR_139_0, qK_140, qR_139_1, qK_141, qR_139_5, qK_142, qR_139_6, qK_143, qR_139_7, qK_144, qR_139_8, qK_145, qR_139_9, qK_146, qR_139_21, qK_147, qR_139_25, qK_148, qR_139_30, qK_149, qR_139_31, qK_150, qR_139_33, qK_151, qR_139_34, qK_152, qR_139_35, qK_153, qR_139_36, qK_154, qR_139_39, qK_155, qR_139_40, qK_156, qR_139_41, qK_157]
  refine qBI.fn (m_isFrom' σ _ (lo := 0) (hi := 200) (by decide) (by decide)) (by decide) ?_
  rw [zlh_i]
  simp (disch := omega) only [nI_leI, nI_ltI, nI_eq, nI_cl, qin_eq, nI_add, nI_mul, qb_z, qb_t, qb_f, nI_ne0', Nat.reduceAdd, Bool.false_eq_true, if_false, if_true, true_and, and_true, Nat.reduceEqDiff, not_true_eq_false, not_false_eq_true, false_implies, true_implies, ite_true, ite_false]
  refine ⟨fun g => ?_, fun g => e_no hA hW zRef.rf (by decide) (by unfold yUpBy; rw [if_pos g]; rfl)⟩
  have g : zih n 0 200 = true := by simpa using g
  obtain ⟨k, -, hk, rfl⟩ := zih_nI g
  have eY : yUpBy A (nI k) = yOk A (nI (zups (zit k (aC A)))) := by
    unfold yUpBy
    rw [if_neg (by rw [g]; decide), nI_tn (by omega)]
  rw [eY]
  refine qBV.of (m_keeps σ (by decide) (by decide)) (by decide) (fun σ1 h1 => ?_)
  subst h1
  have a1 := zkeep_M hM hw (t := 2280) (by decide)
  refine qBI.of (m_minutesGo a1 hw k (by omega)) (by decide) (fun r σ2 h2 => ?_)
  obtain ⟨-, a2, f2⟩ := h2
  refine qBI.fn (m_areUp a2 (zit_W hw k (by omega))) (by decide) ?_
  refine qBV.of (m_restores σ2 (by decide) (by decide)) (by decide) (fun σ3 h3 => ?_)
  subst h3
  have S := hA.scr hW (zback (by decide) f2) zPk_s
  exact e_ok S.1 hW S.2 (by decide) rfl
set_option maxRecDepth 20000 in
theorem M_breakfast {σ : qSg} {A : zA} (hA : zMA σ A) (hW : zAW A) : qCI 9 307 [qr 139] σ (zCall σ (yBreakfast A)) := by
  have h5 : aC A 0 5 ≤ 9999 := hW.1.2.1
  refine qCI.of [some (qr 139)] ok_307 (Nat.le_of_ble_eq_true rfl) rfl ?_
  refine qV.go 30 [9999] ok_307 ?_
  simp only [qW_nop, qW_aloadn, qW_cv1_0, qW_cv2_0, qW_iret0, Nat.reduceAdd, Nat.reduceMul, Nat.reduceBEq, Nat.reduceEqDiff, Nat.reduceLT, Nat.reduceLeDiff, Nat.zero_le, nI_add, nI_mul, nI_cl, qin_eq, qofI, qlg_0, qlg_s, qls_i0, qls_r0, qls_l0, qls_1, qls_2, qkl_i, qkl_r, qkl_l, qkl_n, qIsI_i, qIsL_l, qIsR_r, qint_i, qil_i, qil_r, qil_l, qf4_0, qf4_1, qf4_2, qf4_3, qf2_0, qf2_1, qcs_n, qcs_i, qcs_r, qcs_l, qst_n, qst_c, qJ_0, qJ_st, qJ_go, qfl_I, qfl_Z, qfl_L, qfl_R, qrI_i, qrL_l, qrV_v, qRcv_0, qRcv_s, eq_self, true_and, and_true, true_or, or_true, false_and, and_false, false_or, or_false, ite_true, if_true, if_false, Bool.true_or, Bool.false_or, Bool.or_false, beq_self_eq_true, Bool.false_eq_true, bX12_breakfast_0, kX12_breakfast_0, qK_139, qR_139_0, qK_140, qR_139_1, qK_141, qR_139_5, qK_142, qR_139_6, qK_143, qR_139_7, qK_144, qR_139_8, qK_145, qR_139_9, qK_146, qR_139_21, qK_147, qR_139_25, qK_148, qR_139_30, qK_149, qR_139_31, qK_150, qR_139_33, qK_151, qR_139_34, qK_152, qR_139_35, qK_153, qR_139_36, qK_154, qR_139_39, qK_155, qR_139_40, qK_156, qR_139_41, qK_157]
  refine qBI.of (m_breakfastNow hA.m hW.w (by omega)) (by decide) (fun r σ2 h2 => ?_)
  obtain ⟨rfl, f2⟩ := h2
  have S := hA.scr hW f2 zPk_s
  exact e_ok S.1 hW S.2 (by decide) rfl
set_option maxRecDepth 20000 in
theorem M_overIn {σ : qSg} {A : zA} (hA : zMA σ A) (hW : zAW A) (q : Int32) : qCI 8 309 [qr 139, qi q] σ (zCall σ (yOverIn A q)) := by
  have hM := hA.m
  have hw := hW.w
  have wq := hw.2.1
  have h5 : aC A 0 5 ≤ 9999 := hW.1.2.1
  refine qCI.of [some (qr 139), some (qi q), none] ok_309 (Nat.le_of_ble_eq_true rfl) rfl ?_
  refine qV.go 30 [9999] ok_309 ?_
  simp only [qW_nop, qW_iconst, qW_sipush, qW_iloadn, qW_aloadn, qW_istoren, qW_ifne, qW_cv2_0, qW_cv2_2, qW_iret0, Nat.reduceAdd, Nat.reduceMul, Nat.reduceBEq, Nat.reduceEqDiff, Nat.reduceLT, Nat.reduceLeDiff, Nat.zero_le, nI_add, nI_mul, nI_cl, qin_eq, qofI, qlg_0, qlg_s, qls_i0, qls_r0, qls_l0, qls_1, qls_2, qkl_i, qkl_r, qkl_l, qkl_n, qIsI_i, qIsL_l, qIsR_r, qint_i, qil_i, qil_r, qil_l, qf4_0, qf4_1, qf4_2, qf4_3, qf2_0, qf2_1, qcs_n, qcs_i, qcs_r, qcs_l, qst_n, qst_c, qJ_0, qJ_st, qJ_go, qfl_I, qfl_Z, qfl_L, qfl_R, qrI_i, qrL_l, qrV_v, qRcv_0, qRcv_s, eq_self, true_and, and_true, true_or, or_true, false_and, and_false, false_or, or_false, ite_true, if_true, if_false, Bool.true_or, Bool.false_or, Bool.or_false, beq_self_eq_true, Bool.false_eq_true, bX12_overIn_0, bX12_overIn_14, kX12_overIn_0, kX12_overIn_14, qK_139, qR_139_0, qK_140, qR_139_1, qK_141, qR_139_5, qK_142, qR_139_6, qK_143, qR_139_7, qK_144, qR_139_8, qK_145, qR_139_9, qK_146, qR_139_21, qK_147, qR_139_25, qK_148, qR_139_30, qK_149, qR_139_31, qK_150, qR_139_33, qK_151, qR_139_34, qK_152, qR_139_35, qK_153, qR_139_36, qK_154, qR_139_39, qK_155, qR_139_40, qK_156, qR_139_41, qK_157]
  refine qBI.fn (m_isQuarrel hM hw _) (by decide) ?_
  simp (disch := omega) only [nI_leI, nI_ltI, nI_eq, nI_cl, qin_eq, nI_add, nI_mul, qb_z, qb_t, qb_f, nI_ne0', Nat.reduceAdd, Bool.false_eq_true, if_false, if_true, true_and, and_true, Nat.reduceEqDiff, not_true_eq_false, not_false_eq_true, false_implies, true_implies, ite_true, ite_false]
  refine ⟨fun g => ?_, fun g => e_no hA hW zRef.rf (by decide) (by unfold yOverIn; rw [if_pos g]; rfl)⟩
  have g : zrg q (aC A 0 1) = true := by simpa using g
  obtain ⟨i, hi, rfl⟩ := zrg_nI g
  have eY : yOverIn A (nI i) = yOk A (nI (zover (aC A) i)) := by
    unfold yOverIn
    rw [if_neg (by rw [g]; decide), nI_tn (by omega)]
  rw [eY]
  refine qBV.of (m_keeps σ (by decide) (by decide)) (by decide) (fun σ1 h1 => ?_)
  subst h1
  have a1 := zkeep_M hM hw (t := 2280) (by decide)
  refine qBI.of (m_overOf a1 hw (by omega) hi) (by decide) (fun r σ2 h2 => ?_)
  obtain ⟨rfl, a2, f2⟩ := h2
  refine qBV.of (m_restores σ2 (by decide) (by decide)) (by decide) (fun σ3 h3 => ?_)
  subst h3
  have S := hA.scr hW (zback (by decide) f2) zPk_s
  exact e_ok S.1 hW S.2 (by decide) rfl
set_option maxRecDepth 20000 in
theorem M_yielder {σ : qSg} {A : zA} (hA : zMA σ A) (hW : zAW A) (q : Int32) : qCI 8 310 [qr 139, qi q] σ (zCall σ (yYielder A q)) := by
  have hM := hA.m
  have hw := hW.w
  have wq := hw.2.1
  have h5 : aC A 0 5 ≤ 9999 := hW.1.2.1
  refine qCI.of [some (qr 139), some (qi q), none] ok_310 (Nat.le_of_ble_eq_true rfl) rfl ?_
  refine qV.go 30 [9999] ok_310 ?_
  simp only [qW_nop, qW_iconst, qW_sipush, qW_iloadn, qW_aloadn, qW_istoren, qW_pop, qW_ifne, qW_cv2_0, qW_cv2_2, qW_cv3_0, qW_iret0, Nat.reduceAdd, Nat.reduceMul, Nat.reduceBEq, Nat.reduceEqDiff, Nat.reduceLT, Nat.reduceLeDiff, Nat.zero_le, nI_add, nI_mul, nI_cl, qin_eq, qofI, qlg_0, qlg_s, qls_i0, qls_r0, qls_l0, qls_1, qls_2, qkl_i, qkl_r, qkl_l, qkl_n, qIsI_i, qIsL_l, qIsR_r, qint_i, qil_i, qil_r, qil_l, qf4_0, qf4_1, qf4_2, qf4_3, qf2_0, qf2_1, qcs_n, qcs_i, qcs_r, qcs_l, qst_n, qst_c, qJ_0, qJ_st, qJ_go, qfl_I, qfl_Z, qfl_L, qfl_R, qrI_i, qrL_l, qrV_v, qRcv_0, qRcv_s, eq_self, true_and, and_true, true_or, or_true, false_and, and_false, false_or, or_false, ite_true, if_true, if_false, Bool.true_or, Bool.false_or, Bool.or_false, beq_self_eq_true, Bool.false_eq_true, bX12_yielder_0, bX12_yielder_14, kX12_yielder_0, kX12_yielder_14, qK_139, qR_139_0, qK_140, qR_139_1, qK_141, qR_139_5, qK_142, qR_139_6, qK_143, qR_139_7, qK_144, qR_139_8, qK_145, qR_139_9, qK_146, qR_139_21, qK_147, qR_139_25, qK_148, qR_139_30, qK_149, qR_139_31, qK_150, qR_139_33, qK_151, qR_139_34, qK_152, qR_139_35, qK_153, qR_139_36, qK_154, qR_139_39, qK_155, qR_139_40, qK_156, qR_139_41, qK_157]
  refine qBI.fn (m_isQuarrel hM hw _) (by decide) ?_
  simp (disch := omega) only [nI_leI, nI_ltI, nI_eq, nI_cl, qin_eq, nI_add, nI_mul, qb_z, qb_t, qb_f, nI_ne0', Nat.reduceAdd, Bool.false_eq_true, if_false, if_true, true_and, and_true, Nat.reduceEqDiff, not_true_eq_false, not_false_eq_true, false_implies, true_implies, ite_true, ite_false]
  refine ⟨fun g => ?_, fun g => e_no hA hW zRef.rf (by decide) (by unfold yYielder; rw [if_pos g]; rfl)⟩
  have g : zrg q (aC A 0 1) = true := by simpa using g
  obtain ⟨i, hi, rfl⟩ := zrg_nI g
  have eY : yYielder A (nI i) = yOk A (nI (zit (zover (aC A) i) (aC A) 9 i)) := by
    unfold yYielder
    rw [if_neg (by rw [g]; decide), nI_tn (by omega)]
  rw [eY]
  refine qBV.of (m_keeps σ (by decide) (by decide)) (by decide) (fun σ1 h1 => ?_)
  subst h1
  have a1 := zkeep_M hM hw (t := 2280) (by decide)
  refine qBI.of (m_overOf a1 hw (by omega) hi) (by decide) (fun r σ2 h2 => ?_)
  obtain ⟨-, a2, f2⟩ := h2
  refine qBI.fn (m_quarrelOf σ2 (by omega)) (by decide) ?_
  rw [zMq3 a2 (by rw [zit_q _ _ _ (by decide) (by decide) (by decide)]; exact hi)]
  refine qBV.of (m_restores σ2 (by decide) (by decide)) (by decide) (fun σ3 h3 => ?_)
  subst h3
  have S := hA.scr hW (zback (by decide) f2) zPk_s
  exact e_ok S.1 hW S.2 (by decide) rfl
theorem zlate_lt (U : Nat → Nat) : ∀ n, 0 < n → zlate U n < n
  | n + 1, _ => by
    simp only [zlate]
    split
    · omega
    · by_cases e : n = 0
      · subst e; exact Nat.zero_lt_one
      · have := zlate_lt U n (by omega)
        omega
set_option maxRecDepth 20000 in
theorem M_last {σ : qSg} {A : zA} (hA : zMA σ A) (hW : zAW A) : qCI 8 314 [qr 139] σ (zCall σ (yLast A)) := by
  have hM := hA.m
  have hw := hW.w
  have wb := hw.1
  have h5 : aC A 0 5 ≤ 9999 := hW.1.2.1
  refine qCI.of [some (qr 139), none, none] ok_314 (Nat.le_of_ble_eq_true rfl) rfl ?_
  refine qV.go 30 [8] ok_314 ?_
  simp only [qW_nop, qW_iconst, qW_iconstm, qW_iloadn, qW_aloadn, qW_istoren, qW_iinc, qW_iceq, qW_icge, qW_icle, qW_goto, qW_getf, qW_iald, qW_cv1_2, qW_cv2_0, qW_iret0, Nat.reduceAdd, Nat.reduceMul, Nat.reduceBEq, Nat.reduceEqDiff, Nat.reduceLT, Nat.reduceLeDiff, Nat.zero_le, nI_add, nI_mul, nI_cl, qin_eq, qofI, qlg_0, qlg_s, qls_i0, qls_r0, qls_l0, qls_1, qls_2, qkl_i, qkl_r, qkl_l, qkl_n, qIsI_i, qIsL_l, qIsR_r, qint_i, qil_i, qil_r, qil_l, qf4_0, qf4_1, qf4_2, qf4_3, qf2_0, qf2_1, qcs_n, qcs_i, qcs_r, qcs_l, qst_n, qst_c, qJ_0, qJ_st, qJ_go, qfl_I, qfl_Z, qfl_L, qfl_R, qrI_i, qrL_l, qrV_v, qRcv_0, qRcv_s, eq_self, true_and, and_true, true_or, or_true, false_and, and_false, false_or, or_false, ite_true, if_true, if_false, Bool.true_or, Bool.false_or, Bool.or_false, beq_self_eq_true, Bool.false_eq_true, bX12_last_0, bX12_last_8, bX12_last_38, bX12_last_40, bX12_last_46, kX12_last_0, kX12_last_8, kX12_last_38, kX12_last_40, kX12_last_46, qK_139, qR_139_0, qK_140, qR_139_1, qK_141, qR_139_5, qK_142, qR_139_6, qK_143, qR_139_7, qK_144, qR_139_8, qK_145, qR_139_9, qK_146, qR_139_21, qK_147, qR_139_25, qK_148, qR_139_30, qK_149, qR_139_31, qK_150, qR_139_33, qK_151, qR_139_34, qK_152, qR_139_35, qK_153, qR_139_36, qK_154, qR_139_39, qK_155, qR_139_40, qK_156, qR_139_41, qK_157]
  refine qBV.of (m_laysUp hM hw (by omega)) (by decide) (fun σ1 h1 => ?_)
  obtain ⟨u1, f1⟩ := h1
  have S := hA.scr hW f1 zPu_s
  have M1 := S.1.m
  have z : ∀ b, zupb (aC A) b ≤ 130 := fun b => (zupb_spec hw (by omega) b).1
  refine qdown (n := aC A 0 0) (P := fun q => qV 314 8 (.inl (zCall σ (yLast A))) 8 [some (qr 139), some (qi (if q = 0 then iI (-1) else nI (zlate (zupb (aC A)) q))), some (qi (nI q))] [] σ1) (fun q hq ih => ?_) 0 (Nat.zero_le _)
  refine qV.go 30 [8, 38, 40] ok_314 ?_
  simp only [qW_nop, qW_iconst, qW_iconstm, qW_iloadn, qW_aloadn, qW_istoren, qW_iinc, qW_iceq, qW_icge, qW_icle, qW_goto, qW_getf, qW_iald, qW_cv1_2, qW_cv2_0, qW_iret0, Nat.reduceAdd, Nat.reduceMul, Nat.reduceBEq, Nat.reduceEqDiff, Nat.reduceLT, Nat.reduceLeDiff, Nat.zero_le, nI_add, nI_mul, nI_cl, qin_eq, qofI, qlg_0, qlg_s, qls_i0, qls_r0, qls_l0, qls_1, qls_2, qkl_i, qkl_r, qkl_l, qkl_n, qIsI_i, qIsL_l, qIsR_r, qint_i, qil_i, qil_r, qil_l, qf4_0, qf4_1, qf4_2, qf4_3, qf2_0, qf2_1, qcs_n, qcs_i, qcs_r, qcs_l, qst_n, qst_c, qJ_0, qJ_st, qJ_go, qfl_I, qfl_Z, qfl_L, qfl_R, qrI_i, qrL_l, qrV_v, qRcv_0, qRcv_s, eq_self, true_and, and_true, true_or, or_true, false_and, and_false, false_or, or_false, ite_true, if_true, if_false, Bool.true_or, Bool.false_or, Bool.or_false, beq_self_eq_true, Bool.false_eq_true, bX12_last_0, bX12_last_8, bX12_last_38, bX12_last_40, bX12_last_46, kX12_last_0, kX12_last_8, kX12_last_38, kX12_last_40, kX12_last_46, qK_139, qR_139_0, qK_140, qR_139_1, qK_141, qR_139_5, qK_142, qR_139_6, qK_143, qR_139_7, qK_144, qR_139_8, qK_145, qR_139_9, qK_146, qR_139_21, qK_147, qR_139_25, qK_148, qR_139_30, qK_149, qR_139_31, qK_150, qR_139_33, qK_151, qR_139_34, qK_152, qR_139_35, qK_153, qR_139_36, qK_154, qR_139_39, qK_155, qR_139_40, qK_156, qR_139_41, qK_157]
  rw [zM_s M1 0 (by decide)]
  simp (disch := omega) only [nI_leI, nI_ltI, nI_eq, nI_cl, qin_eq, nI_add, nI_mul, qb_z, qb_t, qb_f, nI_ne0', Nat.reduceAdd, Bool.false_eq_true, if_false, if_true, true_and, and_true, Nat.reduceEqDiff, not_true_eq_false, not_false_eq_true, false_implies, true_implies, ite_true, ite_false]
  refine ⟨fun g => ?_, fun g => ?_⟩
  · have : q = aC A 0 0 := by omega
    subst this
    refine e_or S.1 hW S.2 (by decide) ?_
    unfold yLast
    by_cases e : aC A 0 0 = 0
    · rw [if_pos e, if_pos e]; rfl
    · have hl := zlate_lt (zupb (aC A)) (aC A 0 0) (by omega)
      rw [if_neg e, if_neg e, if_neg]
      · rfl
      · rw [iI_nat, qeq, iI_toInt (by omega) (by omega)]
        intro h
        have : (iI (-1)).toInt = -1 := rfl
        omega
  · have hq1 : q < aC A 0 0 := by omega
    have st : ∀ v, v = (if q + 1 = 0 then iI (-1) else nI (zlate (zupb (aC A)) (q + 1))) → qV 314 8 (.inl (zCall σ (yLast A))) 40 [some (qr 139), some (qi v), some (qi (nI q))] [] σ1 := by
      intro v hv
      subst hv
      refine qV.go 30 [8] ok_314 ?_
      simp only [qW_nop, qW_iconst, qW_iconstm, qW_iloadn, qW_aloadn, qW_istoren, qW_iinc, qW_iceq, qW_icge, qW_icle, qW_goto, qW_getf, qW_iald, qW_cv1_2, qW_cv2_0, qW_iret0, Nat.reduceAdd, Nat.reduceMul, Nat.reduceBEq, Nat.reduceEqDiff, Nat.reduceLT, Nat.reduceLeDiff, Nat.zero_le, nI_add, nI_mul, nI_cl, qin_eq, qofI, qlg_0, qlg_s, qls_i0, qls_r0, qls_l0, qls_1, qls_2, qkl_i, qkl_r, qkl_l, qkl_n, qIsI_i, qIsL_l, qIsR_r, qint_i, qil_i, qil_r, qil_l, qf4_0, qf4_1, qf4_2, qf4_3, qf2_0, qf2_1, qcs_n, qcs_i, qcs_r, qcs_l, qst_n, qst_c, qJ_0, qJ_st, qJ_go, qfl_I, qfl_Z, qfl_L, qfl_R, qrI_i, qrL_l, qrV_v, qRcv_0, qRcv_s, eq_self, true_and, and_true, true_or, or_true, false_and, and_false, false_or, or_false, ite_true, if_true, if_false, Bool.true_or, Bool.false_or, Bool.or_false, beq_self_eq_true, Bool.false_eq_true, bX12_last_0, bX12_last_8, bX12_last_38, bX12_last_40, bX12_last_46, kX12_last_0, kX12_last_8, kX12_last_38, kX12_last_40, kX12_last_46, qK_139, qR_139_0, qK_140, qR_139_1, qK_141, qR_139_5, qK_142, qR_139_6, qK_143, qR_139_7, qK_144, qR_139_8, qK_145, qR_139_9, qK_146, qR_139_21, qK_147, qR_139_25, qK_148, qR_139_30, qK_149, qR_139_31, qK_150, qR_139_33, qK_151, qR_139_34, qK_152, qR_139_35, qK_153, qR_139_36, qK_154, qR_139_39, qK_155, qR_139_40, qK_156, qR_139_41, qK_157]
      exact ih hq1
    have up : (if q + 1 = 0 then iI (-1) else nI (zlate (zupb (aC A)) (q + 1))) = nI q → qV 314 8 (.inl (zCall σ (yLast A))) 38 [some (qr 139), some (qi (if q = 0 then iI (-1) else nI (zlate (zupb (aC A)) q))), some (qi (nI q))] [] σ1 := by
      intro hv
      refine qV.go 30 [40] ok_314 ?_
      simp only [qW_nop, qW_iconst, qW_iconstm, qW_iloadn, qW_aloadn, qW_istoren, qW_iinc, qW_iceq, qW_icge, qW_icle, qW_goto, qW_getf, qW_iald, qW_cv1_2, qW_cv2_0, qW_iret0, Nat.reduceAdd, Nat.reduceMul, Nat.reduceBEq, Nat.reduceEqDiff, Nat.reduceLT, Nat.reduceLeDiff, Nat.zero_le, nI_add, nI_mul, nI_cl, qin_eq, qofI, qlg_0, qlg_s, qls_i0, qls_r0, qls_l0, qls_1, qls_2, qkl_i, qkl_r, qkl_l, qkl_n, qIsI_i, qIsL_l, qIsR_r, qint_i, qil_i, qil_r, qil_l, qf4_0, qf4_1, qf4_2, qf4_3, qf2_0, qf2_1, qcs_n, qcs_i, qcs_r, qcs_l, qst_n, qst_c, qJ_0, qJ_st, qJ_go, qfl_I, qfl_Z, qfl_L, qfl_R, qrI_i, qrL_l, qrV_v, qRcv_0, qRcv_s, eq_self, true_and, and_true, true_or, or_true, false_and, and_false, false_or, or_false, ite_true, if_true, if_false, Bool.true_or, Bool.false_or, Bool.or_false, beq_self_eq_true, Bool.false_eq_true, bX12_last_0, bX12_last_8, bX12_last_38, bX12_last_40, bX12_last_46, kX12_last_0, kX12_last_8, kX12_last_38, kX12_last_40, kX12_last_46, qK_139, qR_139_0, qK_140, qR_139_1, qK_141, qR_139_5, qK_142, qR_139_6, qK_143, qR_139_7, qK_144, qR_139_8, qK_145, qR_139_9, qK_146, qR_139_21, qK_147, qR_139_25, qK_148, qR_139_30, qK_149, qR_139_31, qK_150, qR_139_33, qK_151, qR_139_34, qK_152, qR_139_35, qK_153, qR_139_36, qK_154, qR_139_39, qK_155, qR_139_40, qK_156, qR_139_41, qK_157]
      exact st _ hv.symm
    by_cases e : q = 0
    · subst e
      rw [if_pos rfl]
      refine ⟨fun _ => ?_, fun hh => absurd rfl hh⟩
      have := up (by simp only [zlate, Nat.lt_irrefl, if_false]; rfl)
      rwa [if_pos rfl] at this
    · have hl := zlate_lt (zupb (aC A)) q (by omega)
      rw [if_neg e]
      rw [if_neg e] at up
      have hne : ¬ nI (zlate (zupb (aC A)) q) = iI (-1) := by
        rw [iI_nat, qeq, iI_toInt (by omega) (by omega)]
        intro h
        have : (iI (-1)).toInt = -1 := rfl
        omega
      have za := z q
      have zb := z (zlate (zupb (aC A)) q)
      refine ⟨fun hh => absurd hh hne, fun _ => ?_⟩
      refine ⟨qin_n (by omega) (by decide), ?_⟩
      rw [nI_cl (by omega), u1 _ hq1]
      refine ⟨qin_n (by omega) (by decide), ?_⟩
      rw [u1 _ (by omega)]
      have hs : zlate (zupb (aC A)) (q + 1) = if zupb (aC A) (zlate (zupb (aC A)) q) < zupb (aC A) q then q else zlate (zupb (aC A)) q := rfl
      simp (disch := omega) only [nI_leI, nI_ltI, nI_eq, nI_cl, qin_eq, nI_add, nI_mul, qb_z, qb_t, qb_f, nI_ne0', Nat.reduceAdd, Bool.false_eq_true, if_false, if_true, true_and, and_true, Nat.reduceEqDiff, not_true_eq_false, not_false_eq_true, false_implies, true_implies, ite_true, ite_false]
      refine ⟨fun h => st _ ?_, fun h => up ?_⟩
      · rw [if_neg (by omega), hs, if_neg (by omega)]
      · rw [if_neg (by omega), hs, if_pos (by omega)]
theorem zsf_k {C : zC} (hw : zW C) (hm : C 0 5 ≤ 99000) (k : Nat) : ∀ s, s ≤ 2 ^ C 0 0 → ((zsf C k s).1 = -1 ∧ (zsf C k s).2 = 1000000 ∧ ∀ t, t < s → zpop t ≠ k) ∨ (0 ≤ (zsf C k s).1 ∧ (zsf C k s).2 ≤ 130 ∧ ∃ t, t < s ∧ zpop t = k)
  | 0, _ => Or.inl ⟨rfl, rfl, fun t ht => absurd ht (Nat.not_lt_zero _)⟩
  | s + 1, h => by
    have hb := zbrk_le (zgiveS_W hw s (C 0 0)) (by rw [zgiveS_q _ _ _ _ (by decide) (by decide)]; exact hm)
    simp only [zsf]
    rcases zsf_k hw hm k s (by omega) with ⟨a1, a2, a3⟩ | ⟨a1, a2, t, a3, a4⟩
    · by_cases e : zpop s = k
      · rw [if_pos ⟨e, by omega⟩]
        exact Or.inr ⟨Int.natCast_nonneg s, hb, s, by omega, e⟩
      · rw [if_neg (fun hh => e hh.1)]
        refine Or.inl ⟨a1, a2, fun t ht => ?_⟩
        by_cases et : t = s
        · subst et; exact e
        · exact a3 t (by omega)
    · refine Or.inr ?_
      split
      · exact ⟨Int.natCast_nonneg s, hb, t, by omega, a4⟩
      · exact ⟨a1, a2, t, by omega, a4⟩
theorem zsoon_no {C : zC} (hw : zW C) (hm : C 0 5 ≤ 99000) {k : Nat} (h : C 0 0 < k) : (zsoon C k).1 = -1 := by
  rcases zsf_k hw hm k _ (Nat.le_refl _) with a | ⟨-, -, t, a1, a2⟩
  · exact a.1
  · have := zpop_le a1
    omega
theorem zsoon_is {C : zC} (hw : zW C) (hm : C 0 5 ≤ 99000) {k : Nat} (hk : k ≤ 4) (h : k ≤ C 0 0) : 0 ≤ (zsoon C k).1 := by
  rcases zsf_k hw hm k _ (Nat.le_refl _) with ⟨-, -, a⟩ | a
  · have p : 2 ^ k ≤ 2 ^ C 0 0 := Nat.pow_le_pow_right (by decide) h
    have p1 := Nat.two_pow_pos k
    have := a (2 ^ k - 1) (by omega)
    refine absurd ?_ this
    rcases (show k = 0 ∨ k = 1 ∨ k = 2 ∨ k = 3 ∨ k = 4 by omega) with rfl | rfl | rfl | rfl | rfl <;> decide
  · exact a.1
theorem zsoon_b {C : zC} (hw : zW C) (hm : C 0 5 ≤ 99000) (k : Nat) : -1 ≤ (zsoon C k).1 ∧ (zsoon C k).1 < 256 := by
  have h1 := zsf_bd hw hm k _ (Nat.le_refl _)
  have h2 := zpow_le hw
  exact ⟨h1.2.1, Int.lt_of_lt_of_le h1.2.2 (by omega)⟩
theorem iI_m1 {z : Int} (h1 : -1 ≤ z) (h2 : z < 256) : (iI z = iI (-1)) = (z = -1) := by
  rw [qeq, iI_toInt (by omega) (by omega)]
  rfl
set_option maxRecDepth 20000 in
theorem M_soonest {σ : qSg} {A : zA} (hA : zMA σ A) (hW : zAW A) (k : Int32) : qCI 10 316 [qr 139, qi k] σ (zCall σ (ySoonest A k)) := by
  have hw := hW.w
  have h5 : aC A 0 5 ≤ 9999 := hW.1.2.1
  refine qCI.of [some (qr 139), some (qi k)] ok_316 (Nat.le_of_ble_eq_true rfl) rfl ?_
  refine qV.go 30 [9999] ok_316 ?_
  simp only [qW_nop, qW_iconst, qW_ldc2, qW_lconst, qW_iloadn, qW_aloadn, qW_i2l, qW_ifne, qW_getf, qW_cs3_0, qW_cv2_0, qW_cv2_2, qW_iret0, Nat.reduceAdd, Nat.reduceMul, Nat.reduceBEq, Nat.reduceEqDiff, Nat.reduceLT, Nat.reduceLeDiff, Nat.zero_le, nI_add, nI_mul, nI_cl, qin_eq, qofI, qlg_0, qlg_s, qls_i0, qls_r0, qls_l0, qls_1, qls_2, qkl_i, qkl_r, qkl_l, qkl_n, qIsI_i, qIsL_l, qIsR_r, qint_i, qil_i, qil_r, qil_l, qf4_0, qf4_1, qf4_2, qf4_3, qf2_0, qf2_1, qcs_n, qcs_i, qcs_r, qcs_l, qst_n, qst_c, qJ_0, qJ_st, qJ_go, qfl_I, qfl_Z, qfl_L, qfl_R, qrI_i, qrL_l, qrV_v, qRcv_0, qRcv_s, eq_self, true_and, and_true, true_or, or_true, false_and, and_false, false_or, or_false, ite_true, if_true, if_false, Bool.true_or, Bool.false_or, Bool.or_false, beq_self_eq_true, Bool.false_eq_true, bX12_soonest_0, bX12_soonest_18, kX12_soonest_0, kX12_soonest_18, qK_139, qR_139_0, qK_140, qR_139_1, qK_141, qR_139_5, qK_142, qR_139_6, qK_143, qR_139_7, qK_144, qR_139_8, qK_145, qR_139_9, qK_146, qR_139_21, qK_147, qR_139_25, qK_148, qR_139_30, qK_149, qR_139_31, qK_150, qR_139_33, qK_151, qR_139_34, qK_152, qR_139_35, qK_153, qR_139_36, qK_154, qR_139_39, qK_155, qR_139_40, qK_156, qR_139_41, qK_157]
  refine qBI.fn (m_isFrom' σ _ (lo := 0) (hi := 4) (by decide) (by decide)) (by decide) ?_
  rw [zlh_i]
  simp (disch := omega) only [nI_leI, nI_ltI, nI_eq, nI_cl, qin_eq, nI_add, nI_mul, qb_z, qb_t, qb_f, nI_ne0', Nat.reduceAdd, Bool.false_eq_true, if_false, if_true, true_and, and_true, Nat.reduceEqDiff, not_true_eq_false, not_false_eq_true, false_implies, true_implies, ite_true, ite_false]
  refine ⟨fun g => ?_, fun g => e_no hA hW zRef.rf (by decide) (by unfold ySoonest; rw [if_pos g]; rfl)⟩
  have g : zih k 0 4 = true := by simpa using g
  obtain ⟨i, -, hi, rfl⟩ := zih_nI g
  have eY : ySoonest A (nI i) = if aC A 0 0 < i then yNo A 6 else yOk A (iI (zsoon (aC A) i).1) := by
    unfold ySoonest
    rw [if_neg (by rw [g]; decide), nI_tn (by omega)]
  rw [eY]
  refine qBV.of (m_laysSoonest hA.m hw (by omega) (by omega)) (by decide) (fun σ1 h1 => ?_)
  obtain ⟨s1, s2, f1⟩ := h1
  have S := hA.scr hW f1 zPs_s
  rw [s1]
  have b := zsoon_b hw (by omega) i
  refine e_or S.1 hW S.2 (by decide) ?_
  simp only [iI_m1 b.1 b.2]
  by_cases e : aC A 0 0 < i
  · rw [if_pos e, if_pos (zsoon_no hw (by omega) e), zsoon_no hw (by omega) e]; rfl
  · have := zsoon_is hw (by omega) hi (by omega)
    rw [if_neg e, if_neg (by omega)]; rfl
set_option maxRecDepth 20000 in
theorem M_soonestIn {σ : qSg} {A : zA} (hA : zMA σ A) (hW : zAW A) (k : Int32) : qCI 10 317 [qr 139, qi k] σ (zCall σ (ySoonestIn A k)) := by
  have hw := hW.w
  have h5 : aC A 0 5 ≤ 9999 := hW.1.2.1
  refine qCI.of [some (qr 139), some (qi k)] ok_317 (Nat.le_of_ble_eq_true rfl) rfl ?_
  refine qV.go 30 [9999] ok_317 ?_
  simp only [qW_nop, qW_iconst, qW_iconstm, qW_bipush, qW_ldc2, qW_lconst, qW_iloadn, qW_aloadn, qW_i2l, qW_ifne, qW_icne, qW_goto, qW_getf, qW_cs3_0, qW_cv2_0, qW_cv2_2, qW_iret0, Nat.reduceAdd, Nat.reduceMul, Nat.reduceBEq, Nat.reduceEqDiff, Nat.reduceLT, Nat.reduceLeDiff, Nat.zero_le, nI_add, nI_mul, nI_cl, qin_eq, qofI, qlg_0, qlg_s, qls_i0, qls_r0, qls_l0, qls_1, qls_2, qkl_i, qkl_r, qkl_l, qkl_n, qIsI_i, qIsL_l, qIsR_r, qint_i, qil_i, qil_r, qil_l, qf4_0, qf4_1, qf4_2, qf4_3, qf2_0, qf2_1, qcs_n, qcs_i, qcs_r, qcs_l, qst_n, qst_c, qJ_0, qJ_st, qJ_go, qfl_I, qfl_Z, qfl_L, qfl_R, qrI_i, qrL_l, qrV_v, qRcv_0, qRcv_s, eq_self, true_and, and_true, true_or, or_true, false_and, and_false, false_or, or_false, ite_true, if_true, if_false, Bool.true_or, Bool.false_or, Bool.or_false, beq_self_eq_true, Bool.false_eq_true, bX12_soonestIn_0, bX12_soonestIn_18, bX12_soonestIn_40, bX12_soonestIn_48, kX12_soonestIn_0, kX12_soonestIn_18, kX12_soonestIn_40, kX12_soonestIn_48, qK_139, qR_139_0, qK_140, qR_139_1, qK_141, qR_139_5, qK_142, qR_139_6, qK_143, qR_139_7, qK_144, qR_139_8, qK_145, qR_139_9, qK_146, qR_139_21, qK_147, qR_139_25, qK_148, qR_139_30, qK_149, qR_139_31, qK_150, qR_139_33, qK_151, qR_139_34, qK_152, qR_139_35, qK_153, qR_139_36, qK_154, qR_139_39, qK_155, qR_139_40, qK_156, qR_139_41, qK_157]
  refine qBI.fn (m_isFrom' σ _ (lo := 0) (hi := 4) (by decide) (by decide)) (by decide) ?_
  rw [zlh_i]
  simp (disch := omega) only [nI_leI, nI_ltI, nI_eq, nI_cl, qin_eq, nI_add, nI_mul, qb_z, qb_t, qb_f, nI_ne0', Nat.reduceAdd, Bool.false_eq_true, if_false, if_true, true_and, and_true, Nat.reduceEqDiff, not_true_eq_false, not_false_eq_true, false_implies, true_implies, ite_true, ite_false]
  refine ⟨fun g => ?_, fun g => e_no hA hW zRef.rf (by decide) (by unfold ySoonestIn; rw [if_pos g]; rfl)⟩
  have g : zih k 0 4 = true := by simpa using g
  obtain ⟨i, -, hi, rfl⟩ := zih_nI g
  have eY : ySoonestIn A (nI i) = if aC A 0 0 < i then yNo A 6 else yOk A (nI (zsoon (aC A) i).2) := by
    unfold ySoonestIn
    rw [if_neg (by rw [g]; decide), nI_tn (by omega)]
  rw [eY]
  refine qBV.of (m_laysSoonest hA.m hw (by omega) (by omega)) (by decide) (fun σ1 h1 => ?_)
  obtain ⟨s1, s2, f1⟩ := h1
  have S := hA.scr hW f1 zPs_s
  have b := zsoon_b hw (by omega) i
  rw [s1, s2]
  simp only [iI_m1 b.1 b.2]
  refine ⟨fun h => ?_, fun h => ?_⟩
  · have e : ¬ aC A 0 0 < i := fun e => h (zsoon_no hw (by omega) e)
    rw [if_neg e]
    exact e_ok S.1 hW S.2 (by decide) rfl
  · have e : aC A 0 0 < i := by
      rcases Nat.lt_or_ge (aC A 0 0) i with q | q
      · exact q
      · have := zsoon_is hw (by omega) hi q
        omega
    rw [if_pos e]
    exact e_no S.1 hW S.2 (by decide) rfl
set_option maxRecDepth 20000 in
theorem M_best {σ : qSg} {A : zA} (hA : zMA σ A) (hW : zAW A) (b : Int32) : qCI 10 319 [qr 139, qi b] σ (zCall σ (yBest A b)) := by
  have hM := hA.m
  have hw := hW.w
  have wb := hw.1
  have h5 : aC A 0 5 ≤ 9999 := hW.1.2.1
  refine qCI.of [some (qr 139), some (qi b)] ok_319 (Nat.le_of_ble_eq_true rfl) rfl ?_
  refine qV.go 30 [9999] ok_319 ?_
  simp only [qW_nop, qW_iconst, qW_iloadn, qW_aloadn, qW_i2l, qW_ifne, qW_getf, qW_cv2_0, qW_cv2_2, qW_iret0, Nat.reduceAdd, Nat.reduceMul, Nat.reduceBEq, Nat.reduceEqDiff, Nat.reduceLT, Nat.reduceLeDiff, Nat.zero_le, nI_add, nI_mul, nI_cl, qin_eq, qofI, qlg_0, qlg_s, qls_i0, qls_r0, qls_l0, qls_1, qls_2, qkl_i, qkl_r, qkl_l, qkl_n, qIsI_i, qIsL_l, qIsR_r, qint_i, qil_i, qil_r, qil_l, qf4_0, qf4_1, qf4_2, qf4_3, qf2_0, qf2_1, qcs_n, qcs_i, qcs_r, qcs_l, qst_n, qst_c, qJ_0, qJ_st, qJ_go, qfl_I, qfl_Z, qfl_L, qfl_R, qrI_i, qrL_l, qrV_v, qRcv_0, qRcv_s, eq_self, true_and, and_true, true_or, or_true, false_and, and_false, false_or, or_false, ite_true, if_true, if_false, Bool.true_or, Bool.false_or, Bool.or_false, beq_self_eq_true, Bool.false_eq_true, bX12_best_0, bX12_best_15, kX12_best_0, kX12_best_15, qK_139, qR_139_0, qK_140, qR_139_1, qK_141, qR_139_5, qK_142, qR_139_6, qK_143, qR_139_7, qK_144, qR_139_8, qK_145, qR_139_9, qK_146, qR_139_21, qK_147, qR_139_25, qK_148, qR_139_30, qK_149, qR_139_31, qK_150, qR_139_33, qK_151, qR_139_34, qK_152, qR_139_35, qK_153, qR_139_36, qK_154, qR_139_39, qK_155, qR_139_40, qK_156, qR_139_41, qK_157]
  refine qBI.fn (m_isBoy hM hw _) (by decide) ?_
  rw [zrl_i]
  simp (disch := omega) only [nI_leI, nI_ltI, nI_eq, nI_cl, qin_eq, nI_add, nI_mul, qb_z, qb_t, qb_f, nI_ne0', Nat.reduceAdd, Bool.false_eq_true, if_false, if_true, true_and, and_true, Nat.reduceEqDiff, not_true_eq_false, not_false_eq_true, false_implies, true_implies, ite_true, ite_false]
  refine ⟨fun g => ?_, fun g => e_no hA hW zRef.rf (by decide) (by unfold yBest; rw [if_pos g]; rfl)⟩
  have g : zrg b (aC A 0 0) = true := by simpa using g
  obtain ⟨i, hi, rfl⟩ := zrg_nI g
  have eY : yBest A (nI i) = yOk A (nI (zbest (aC A) i).1) := by
    unfold yBest
    rw [if_neg (by rw [g]; decide), nI_tn (by omega)]
  rw [eY]
  refine qBV.of (m_laysBest hM hw (by omega) hi) (by decide) (fun σ1 h1 => ?_)
  obtain ⟨s1, s2, f1⟩ := h1
  have S := hA.scr hW f1 zPb_s
  rw [s1]
  exact e_ok S.1 hW S.2 (by decide) rfl
set_option maxRecDepth 20000 in
theorem M_bestIn {σ : qSg} {A : zA} (hA : zMA σ A) (hW : zAW A) (b : Int32) : qCI 10 320 [qr 139, qi b] σ (zCall σ (yBestIn A b)) := by
  have hM := hA.m
  have hw := hW.w
  have wb := hw.1
  have h5 : aC A 0 5 ≤ 9999 := hW.1.2.1
  refine qCI.of [some (qr 139), some (qi b)] ok_320 (Nat.le_of_ble_eq_true rfl) rfl ?_
  refine qV.go 30 [9999] ok_320 ?_
  simp only [qW_nop, qW_iconst, qW_iloadn, qW_aloadn, qW_i2l, qW_ifne, qW_getf, qW_cv2_0, qW_cv2_2, qW_iret0, Nat.reduceAdd, Nat.reduceMul, Nat.reduceBEq, Nat.reduceEqDiff, Nat.reduceLT, Nat.reduceLeDiff, Nat.zero_le, nI_add, nI_mul, nI_cl, qin_eq, qofI, qlg_0, qlg_s, qls_i0, qls_r0, qls_l0, qls_1, qls_2, qkl_i, qkl_r, qkl_l, qkl_n, qIsI_i, qIsL_l, qIsR_r, qint_i, qil_i, qil_r, qil_l, qf4_0, qf4_1, qf4_2, qf4_3, qf2_0, qf2_1, qcs_n, qcs_i, qcs_r, qcs_l, qst_n, qst_c, qJ_0, qJ_st, qJ_go, qfl_I, qfl_Z, qfl_L, qfl_R, qrI_i, qrL_l, qrV_v, qRcv_0, qRcv_s, eq_self, true_and, and_true, true_or, or_true, false_and, and_false, false_or, or_false, ite_true, if_true, if_false, Bool.true_or, Bool.false_or, Bool.or_false, beq_self_eq_true, Bool.false_eq_true, bX12_bestIn_0, bX12_bestIn_15, kX12_bestIn_0, kX12_bestIn_15, qK_139, qR_139_0, qK_140, qR_139_1, qK_141, qR_139_5, qK_142, qR_139_6, qK_143, qR_139_7, qK_144, qR_139_8, qK_145, qR_139_9, qK_146, qR_139_21, qK_147, qR_139_25, qK_148, qR_139_30, qK_149, qR_139_31, qK_150, qR_139_33, qK_151, qR_139_34, qK_152, qR_139_35, qK_153, qR_139_36, qK_154, qR_139_39, qK_155, qR_139_40, qK_156, qR_139_41, qK_157]
  refine qBI.fn (m_isBoy hM hw _) (by decide) ?_
  rw [zrl_i]
  simp (disch := omega) only [nI_leI, nI_ltI, nI_eq, nI_cl, qin_eq, nI_add, nI_mul, qb_z, qb_t, qb_f, nI_ne0', Nat.reduceAdd, Bool.false_eq_true, if_false, if_true, true_and, and_true, Nat.reduceEqDiff, not_true_eq_false, not_false_eq_true, false_implies, true_implies, ite_true, ite_false]
  refine ⟨fun g => ?_, fun g => e_no hA hW zRef.rf (by decide) (by unfold yBestIn; rw [if_pos g]; rfl)⟩
  have g : zrg b (aC A 0 0) = true := by simpa using g
  obtain ⟨i, hi, rfl⟩ := zrg_nI g
  have eY : yBestIn A (nI i) = yOk A (nI (zbest (aC A) i).2) := by
    unfold yBestIn
    rw [if_neg (by rw [g]; decide), nI_tn (by omega)]
  rw [eY]
  refine qBV.of (m_laysBest hM hw (by omega) hi) (by decide) (fun σ1 h1 => ?_)
  obtain ⟨s1, s2, f1⟩ := h1
  have S := hA.scr hW f1 zPb_s
  rw [s2]
  exact e_ok S.1 hW S.2 (by decide) rfl
