/-! the class: who is up within some minutes, who last; whom to have yield, circles, sides -/
set_option maxRecDepth 20000 in
theorem x_upWithin {σ : qSg} {C : zC} (hw : zW C) (hm : C 0 5 ≤ 99000) (hb : σ.1 26 4 = nI (C 0 0)) (hu : ∀ b, b < C 0 0 → σ.1 38 b = nI (zupb C b)) {n : Nat} (hn : n ≤ 200) : qFI 1 5 [qr 25, qi (nI n)] σ (nI (zups (zit n C))) := by
  have wb := hw.1
  refine qCI.of [some (qr 25), some (qi (nI n)), none, none] ok_5 (Nat.le_of_ble_eq_true rfl) rfl ?_
  refine qV.go 30 [4] ok_5 ?_
  simp only [qW_nop, qW_iconst, qW_iloadn, qW_aloadn, qW_istoren, qW_iinc, qW_ior, qW_ishl, qW_icge, qW_icgt, qW_goto, qW_getf, qW_iald, qW_iret0, Nat.reduceAdd, Nat.reduceMul, Nat.reduceBEq, Nat.reduceEqDiff, Nat.reduceLT, Nat.reduceLeDiff, Nat.zero_le, nI_add, nI_mul, nI_cl, qin_eq, qofI, qlg_0, qlg_s, qls_i0, qls_r0, qls_l0, qls_1, qls_2, qkl_i, qkl_r, qkl_l, qkl_n, qIsI_i, qIsL_l, qIsR_r, qint_i, qil_i, qil_r, qil_l, qf4_0, qf4_1, qf4_2, qf4_3, qf2_0, qf2_1, qcs_n, qcs_i, qcs_r, qcs_l, qst_n, qst_c, qJ_0, qJ_st, qJ_go, qfl_I, qfl_Z, qfl_L, qfl_R, qrI_i, qrL_l, qrV_v, qRcv_0, qRcv_s, eq_self, true_and, and_true, true_or, or_true, false_and, and_false, false_or, or_false, ite_true, if_true, if_false, Bool.true_or, Bool.false_or, Bool.or_false, beq_self_eq_true, Bool.false_eq_true, bX0_upWithin_0, bX0_upWithin_4, bX0_upWithin_31, bX0_upWithin_37, kX0_upWithin_0, kX0_upWithin_4, kX0_upWithin_31, kX0_upWithin_37, qK_25, qR_25_0, qK_26, qR_25_1, qK_38, qR_25_2, qK_39, qK_26, qR_26_6, qK_27, qR_26_7, qK_28, qR_26_8, qK_29, qR_26_9, qK_30, qR_26_10, qK_31, qR_26_11, qK_32, qR_26_12, qK_33, qR_26_13, qK_34, qR_26_14, qK_35, qR_26_15, qK_36, qR_26_16, qK_37]
  have e0 : (zit n C) 0 0 = C 0 0 := zit_q _ _ _ (by decide) (by decide) (by decide) n
  have ez : zups (zit n C) = bm (C 0 0) (zUp (zit n C)) := by unfold zups; rw [e0]
  rw [ez]
  refine qdown (n := C 0 0) (P := fun b => qV 5 1 (.inl fun v σ' => v = nI (bm (C 0 0) (zUp (zit n C))) ∧ σ' = σ) 4 [some (qr 25), some (qi (nI n)), some (qi (nI (bm b (zUp (zit n C))))), some (qi (nI b))] [] σ) (fun b hb1 ih => ?_) 0 (Nat.zero_le _)
  refine qV.go 30 [4] ok_5 ?_
  simp only [qW_nop, qW_iconst, qW_iloadn, qW_aloadn, qW_istoren, qW_iinc, qW_ior, qW_ishl, qW_icge, qW_icgt, qW_goto, qW_getf, qW_iald, qW_iret0, Nat.reduceAdd, Nat.reduceMul, Nat.reduceBEq, Nat.reduceEqDiff, Nat.reduceLT, Nat.reduceLeDiff, Nat.zero_le, nI_add, nI_mul, nI_cl, qin_eq, qofI, qlg_0, qlg_s, qls_i0, qls_r0, qls_l0, qls_1, qls_2, qkl_i, qkl_r, qkl_l, qkl_n, qIsI_i, qIsL_l, qIsR_r, qint_i, qil_i, qil_r, qil_l, qf4_0, qf4_1, qf4_2, qf4_3, qf2_0, qf2_1, qcs_n, qcs_i, qcs_r, qcs_l, qst_n, qst_c, qJ_0, qJ_st, qJ_go, qfl_I, qfl_Z, qfl_L, qfl_R, qrI_i, qrL_l, qrV_v, qRcv_0, qRcv_s, eq_self, true_and, and_true, true_or, or_true, false_and, and_false, false_or, or_false, ite_true, if_true, if_false, Bool.true_or, Bool.false_or, Bool.or_false, beq_self_eq_true, Bool.false_eq_true, bX0_upWithin_0, bX0_upWithin_4, bX0_upWithin_31, bX0_upWithin_37, kX0_upWithin_0, kX0_upWithin_4, kX0_upWithin_31, kX0_upWithin_37, qK_25, qR_25_0, qK_26, qR_25_1, qK_38, qR_25_2, qK_39, qK_26, qR_26_6, qK_27, qR_26_7, qK_28, qR_26_8, qK_29, qR_26_9, qK_30, qR_26_10, qK_31, qR_26_11, qK_32, qR_26_12, qK_33, qR_26_13, qK_34, qR_26_14, qK_35, qR_26_15, qK_36, qR_26_16, qK_37]
  rw [hb]
  simp (disch := omega) only [nI_leI, nI_ltI, nI_eq, nI_cl, qin_eq, nI_add, nI_mul, qb_z, qb_t, qb_f, nI_ne0', Nat.reduceAdd, Bool.false_eq_true, if_false, if_true, true_and, and_true, Nat.reduceEqDiff, not_true_eq_false, not_false_eq_true, false_implies, true_implies, ite_true, ite_false]
  refine ⟨fun g => ?_, fun g => ?_⟩
  · have : b = C 0 0 := by omega
    subst this
    rfl
  · have hb2 : b < C 0 0 := by omega
    obtain ⟨z1, z2, z3⟩ := zupb_spec hw hm b
    rw [hu b hb2]
    simp (disch := omega) only [nI_leI, nI_ltI, nI_eq, nI_cl, qin_eq, nI_add, nI_mul, qb_z, qb_t, qb_f, nI_ne0', Nat.reduceAdd, Bool.false_eq_true, if_false, if_true, true_and, and_true, Nat.reduceEqDiff, not_true_eq_false, not_false_eq_true, false_implies, true_implies, ite_true, ite_false]
    refine ⟨fun h => ?_, fun h => ?_⟩
    · have e : zUp (zit n C) b = false := z3 n (by omega)
      rw [← qset_not (P := zUp (zit n C)) (n := b) e] at ih
      exact ih hb2
    · have e : zUp (zit n C) b = true := zUp_mono (by omega) z2
      rw [qset_add (P := zUp (zit n C)) (n := b) (by omega) e]
      exact ih hb2
set_option maxRecDepth 20000 in
theorem x_lastUp {σ : qSg} {C : zC} (hw : zW C) (hm : C 0 5 ≤ 99000) (h0 : 0 < C 0 0) (hb : σ.1 26 4 = nI (C 0 0)) (hu : ∀ b, b < C 0 0 → σ.1 38 b = nI (zupb C b)) : qFI 1 6 [qr 25] σ (nI (zlate (zupb C) (C 0 0))) := by
  have wb := hw.1
  refine qCI.of [some (qr 25), none, none] ok_6 (Nat.le_of_ble_eq_true rfl) rfl ?_
  refine qV.go 30 [4] ok_6 ?_
  simp only [qW_nop, qW_iconst, qW_iloadn, qW_aloadn, qW_istoren, qW_iinc, qW_icge, qW_icle, qW_goto, qW_getf, qW_iald, qW_iret0, Nat.reduceAdd, Nat.reduceMul, Nat.reduceBEq, Nat.reduceEqDiff, Nat.reduceLT, Nat.reduceLeDiff, Nat.zero_le, nI_add, nI_mul, nI_cl, qin_eq, qofI, qlg_0, qlg_s, qls_i0, qls_r0, qls_l0, qls_1, qls_2, qkl_i, qkl_r, qkl_l, qkl_n, qIsI_i, qIsL_l, qIsR_r, qint_i, qil_i, qil_r, qil_l, qf4_0, qf4_1, qf4_2, qf4_3, qf2_0, qf2_1, qcs_n, qcs_i, qcs_r, qcs_l, qst_n, qst_c, qJ_0, qJ_st, qJ_go, qfl_I, qfl_Z, qfl_L, qfl_R, qrI_i, qrL_l, qrV_v, qRcv_0, qRcv_s, eq_self, true_and, and_true, true_or, or_true, false_and, and_false, false_or, or_false, ite_true, if_true, if_false, Bool.true_or, Bool.false_or, Bool.or_false, beq_self_eq_true, Bool.false_eq_true, bX0_lastUp_0, bX0_lastUp_4, bX0_lastUp_32, bX0_lastUp_38, kX0_lastUp_0, kX0_lastUp_4, kX0_lastUp_32, kX0_lastUp_38, qK_25, qR_25_0, qK_26, qR_25_1, qK_38, qR_25_2, qK_39, qK_26, qR_26_6, qK_27, qR_26_7, qK_28, qR_26_8, qK_29, qR_26_9, qK_30, qR_26_10, qK_31, qR_26_11, qK_32, qR_26_12, qK_33, qR_26_13, qK_34, qR_26_14, qK_35, qR_26_15, qK_36, qR_26_16, qK_37]
  have key := qdown (n := C 0 0) (P := fun b => 1 ≤ b → qV 6 1 (.inl fun v σ' => v = nI (zlate (zupb C) (C 0 0)) ∧ σ' = σ) 4 [some (qr 25), some (qi (nI (zlate (zupb C) b))), some (qi (nI b))] [] σ) (fun b hb1 ih => ?_) 1 (by omega) (Nat.le_refl _)
  · have e1 : zlate (zupb C) 1 = 0 := by simp [zlate]
    rw [e1] at key
    exact key
  · intro hb3
    have hl := zlate_lt (zupb C) b (by omega)
    have hs : zlate (zupb C) (b + 1) = if zupb C (zlate (zupb C) b) < zupb C b then b else zlate (zupb C) b := rfl
    refine qV.go 30 [4, 32] ok_6 ?_
    simp only [qW_nop, qW_iconst, qW_iloadn, qW_aloadn, qW_istoren, qW_iinc, qW_icge, qW_icle, qW_goto, qW_getf, qW_iald, qW_iret0, Nat.reduceAdd, Nat.reduceMul, Nat.reduceBEq, Nat.reduceEqDiff, Nat.reduceLT, Nat.reduceLeDiff, Nat.zero_le, nI_add, nI_mul, nI_cl, qin_eq, qofI, qlg_0, qlg_s, qls_i0, qls_r0, qls_l0, qls_1, qls_2, qkl_i, qkl_r, qkl_l, qkl_n, qIsI_i, qIsL_l, qIsR_r, qint_i, qil_i, qil_r, qil_l, qf4_0, qf4_1, qf4_2, qf4_3, qf2_0, qf2_1, qcs_n, qcs_i, qcs_r, qcs_l, qst_n, qst_c, qJ_0, qJ_st, qJ_go, qfl_I, qfl_Z, qfl_L, qfl_R, qrI_i, qrL_l, qrV_v, qRcv_0, qRcv_s, eq_self, true_and, and_true, true_or, or_true, false_and, and_false, false_or, or_false, ite_true, if_true, if_false, Bool.true_or, Bool.false_or, Bool.or_false, beq_self_eq_true, Bool.false_eq_true, bX0_lastUp_0, bX0_lastUp_4, bX0_lastUp_32, bX0_lastUp_38, kX0_lastUp_0, kX0_lastUp_4, kX0_lastUp_32, kX0_lastUp_38, qK_25, qR_25_0, qK_26, qR_25_1, qK_38, qR_25_2, qK_39, qK_26, qR_26_6, qK_27, qR_26_7, qK_28, qR_26_8, qK_29, qR_26_9, qK_30, qR_26_10, qK_31, qR_26_11, qK_32, qR_26_12, qK_33, qR_26_13, qK_34, qR_26_14, qK_35, qR_26_15, qK_36, qR_26_16, qK_37]
    rw [hb]
    simp (disch := omega) only [nI_leI, nI_ltI, nI_eq, nI_cl, qin_eq, nI_add, nI_mul, qb_z, qb_t, qb_f, nI_ne0', Nat.reduceAdd, Bool.false_eq_true, if_false, if_true, true_and, and_true, Nat.reduceEqDiff, not_true_eq_false, not_false_eq_true, false_implies, true_implies, ite_true, ite_false]
    refine ⟨fun g => ?_, fun g => ?_⟩
    · have : b = C 0 0 := by omega
      subst this
      rfl
    · have hb2 : b < C 0 0 := by omega
      have z1 := (zupb_spec hw hm b).1
      have z2 := (zupb_spec hw hm (zlate (zupb C) b)).1
      have st : ∀ v, v = nI (zlate (zupb C) (b + 1)) → qV 6 1 (.inl fun v σ' => v = nI (zlate (zupb C) (C 0 0)) ∧ σ' = σ) 32 [some (qr 25), some (qi v), some (qi (nI b))] [] σ := by
        intro v hv
        subst hv
        refine qV.go 30 [4] ok_6 ?_
        simp only [qW_nop, qW_iconst, qW_iloadn, qW_aloadn, qW_istoren, qW_iinc, qW_icge, qW_icle, qW_goto, qW_getf, qW_iald, qW_iret0, Nat.reduceAdd, Nat.reduceMul, Nat.reduceBEq, Nat.reduceEqDiff, Nat.reduceLT, Nat.reduceLeDiff, Nat.zero_le, nI_add, nI_mul, nI_cl, qin_eq, qofI, qlg_0, qlg_s, qls_i0, qls_r0, qls_l0, qls_1, qls_2, qkl_i, qkl_r, qkl_l, qkl_n, qIsI_i, qIsL_l, qIsR_r, qint_i, qil_i, qil_r, qil_l, qf4_0, qf4_1, qf4_2, qf4_3, qf2_0, qf2_1, qcs_n, qcs_i, qcs_r, qcs_l, qst_n, qst_c, qJ_0, qJ_st, qJ_go, qfl_I, qfl_Z, qfl_L, qfl_R, qrI_i, qrL_l, qrV_v, qRcv_0, qRcv_s, eq_self, true_and, and_true, true_or, or_true, false_and, and_false, false_or, or_false, ite_true, if_true, if_false, Bool.true_or, Bool.false_or, Bool.or_false, beq_self_eq_true, Bool.false_eq_true, bX0_lastUp_0, bX0_lastUp_4, bX0_lastUp_32, bX0_lastUp_38, kX0_lastUp_0, kX0_lastUp_4, kX0_lastUp_32, kX0_lastUp_38, qK_25, qR_25_0, qK_26, qR_25_1, qK_38, qR_25_2, qK_39, qK_26, qR_26_6, qK_27, qR_26_7, qK_28, qR_26_8, qK_29, qR_26_9, qK_30, qR_26_10, qK_31, qR_26_11, qK_32, qR_26_12, qK_33, qR_26_13, qK_34, qR_26_14, qK_35, qR_26_15, qK_36, qR_26_16, qK_37]
        exact ih hb2 (by omega)
      rw [hu b hb2, hu _ (by omega)]
      simp (disch := omega) only [nI_leI, nI_ltI, nI_eq, nI_cl, qin_eq, nI_add, nI_mul, qb_z, qb_t, qb_f, nI_ne0', Nat.reduceAdd, Bool.false_eq_true, if_false, if_true, true_and, and_true, Nat.reduceEqDiff, not_true_eq_false, not_false_eq_true, false_implies, true_implies, ite_true, ite_false]
      refine ⟨fun h => st _ ?_, fun h => st _ ?_⟩
      · rw [hs, if_neg (by omega)]
      · rw [hs, if_pos (by omega)]
set_option maxRecDepth 20000 in
theorem x_pairOf {σ : qSg} {r : Nat} {C : zC} (hr : zCb r) (h : zX0 σ r C) (hw : zW C) {q : Nat} (hq : q < C 0 1) : qFI 2 80 [qr r, qi (nI q)] σ (nI (zboth C q)) := by
  obtain ⟨wb, wq, ww1, ww2, wh1, wh2, wo, wm, wB, wQ⟩ := id hw
  have g := wQ q hq
  refine qCI.of [some (qr r), some (qi (nI q))] ok_80 (Nat.le_of_ble_eq_true rfl) rfl ?_
  refine qV.go 30 [9999] ok_80 ?_
  simp only [qW_nop, qW_iconst, qW_iloadn, qW_aloadn, qW_ior, qW_ishl, qW_ifeq, qW_goto, qW_getf, qW_iald, qW_cv2_0, qW_iret0, Nat.reduceAdd, Nat.reduceMul, Nat.reduceBEq, Nat.reduceEqDiff, Nat.reduceLT, Nat.reduceLeDiff, Nat.zero_le, nI_add, nI_mul, nI_cl, qin_eq, qofI, qlg_0, qlg_s, qls_i0, qls_r0, qls_l0, qls_1, qls_2, qkl_i, qkl_r, qkl_l, qkl_n, qIsI_i, qIsL_l, qIsR_r, qint_i, qil_i, qil_r, qil_l, qf4_0, qf4_1, qf4_2, qf4_3, qf2_0, qf2_1, qcs_n, qcs_i, qcs_r, qcs_l, qst_n, qst_c, qJ_0, qJ_st, qJ_go, qfl_I, qfl_Z, qfl_L, qfl_R, qrI_i, qrL_l, qrV_v, qRcv_0, qRcv_s, eq_self, true_and, and_true, true_or, or_true, false_and, and_false, false_or, or_false, ite_true, if_true, if_false, Bool.true_or, Bool.false_or, Bool.or_false, beq_self_eq_true, Bool.false_eq_true, bX6_pairOf_0, bX6_pairOf_28, bX6_pairOf_29, kX6_pairOf_0, kX6_pairOf_28, kX6_pairOf_29, zCb_k hr, zCb_6 hr, zCb_7 hr, zCb_8 hr, zCb_9 hr, zCb_10 hr, zCb_11 hr, zCb_12 hr, zCb_13 hr, zCb_14 hr, zCb_15 hr, zCb_16 hr, zCb_a1 hr, zCb_a2 hr, zCb_a3 hr, zCb_a4 hr, zCb_a5 hr, zCb_a6 hr, zCb_a7 hr, zCb_a8 hr, zCb_a9 hr, zCb_a10 hr, zCb_a11 hr]
  refine qBI.fn (x_hasQuarrel hr h hw _) (by decide) ?_
  rw [zrg_k hq (by omega)]
  simp (disch := omega) only [nI_leI, nI_ltI, nI_eq, nI_cl, qin_eq, nI_add, nI_mul, qb_z, qb_t, qb_f, nI_ne0', Nat.reduceAdd, Bool.false_eq_true, if_false, if_true, true_and, and_true, Nat.reduceEqDiff, not_true_eq_false, not_false_eq_true, false_implies, true_implies, ite_true, ite_false]
  rw [h.fi hq, h.se hq, qshl1 (by omega), qshl1 (by omega), nI_or]
  rfl
set_option maxRecDepth 20000 in
theorem x_endsAll {σ : qSg} {r : Nat} {C : zC} (hr : zCb r) (h : zX0 σ r C) (hw : zW C) {s : Nat} (hs : s < 2147483648) : qFI 3 79 [qr r, qi (nI s)] σ (qb (zendsAll C s)) := by
  obtain ⟨wb, wq, ww1, ww2, wh1, wh2, wo, wm, wB, wQ⟩ := id hw
  refine qCI.of [some (qr r), some (qi (nI s)), none] ok_79 (Nat.le_of_ble_eq_true rfl) rfl ?_
  refine qV.go 30 [2] ok_79 ?_
  simp only [qW_nop, qW_iconst, qW_iloadn, qW_aloadn, qW_istoren, qW_iinc, qW_iand, qW_ifne, qW_icge, qW_goto, qW_getf, qW_iald, qW_cs2_0, qW_iret1, Nat.reduceAdd, Nat.reduceMul, Nat.reduceBEq, Nat.reduceEqDiff, Nat.reduceLT, Nat.reduceLeDiff, Nat.zero_le, nI_add, nI_mul, nI_cl, qin_eq, qofI, qlg_0, qlg_s, qls_i0, qls_r0, qls_l0, qls_1, qls_2, qkl_i, qkl_r, qkl_l, qkl_n, qIsI_i, qIsL_l, qIsR_r, qint_i, qil_i, qil_r, qil_l, qf4_0, qf4_1, qf4_2, qf4_3, qf2_0, qf2_1, qcs_n, qcs_i, qcs_r, qcs_l, qst_n, qst_c, qJ_0, qJ_st, qJ_go, qfl_I, qfl_Z, qfl_L, qfl_R, qrI_i, qrL_l, qrV_v, qRcv_0, qRcv_s, eq_self, true_and, and_true, true_or, or_true, false_and, and_false, false_or, or_false, ite_true, if_true, if_false, Bool.true_or, Bool.false_or, Bool.or_false, beq_self_eq_true, Bool.false_eq_true, bX6_endsAll_0, bX6_endsAll_2, bX6_endsAll_31, bX6_endsAll_37, kX6_endsAll_0, kX6_endsAll_2, kX6_endsAll_31, kX6_endsAll_37, zCb_k hr, zCb_6 hr, zCb_7 hr, zCb_8 hr, zCb_9 hr, zCb_10 hr, zCb_11 hr, zCb_12 hr, zCb_13 hr, zCb_14 hr, zCb_15 hr, zCb_16 hr, zCb_a1 hr, zCb_a2 hr, zCb_a3 hr, zCb_a4 hr, zCb_a5 hr, zCb_a6 hr, zCb_a7 hr, zCb_a8 hr, zCb_a9 hr, zCb_a10 hr, zCb_a11 hr]
  refine qdown (n := C 0 1) (P := fun q => (∀ i, i < q → (!(zOpen C i) || decide (zboth C i &&& s ≠ 0)) = true) → qV 79 3 (.inl fun v σ' => v = qb (zendsAll C s) ∧ σ' = σ) 2 [some (qr r), some (qi (nI s)), some (qi (nI q))] [] σ) (fun q hq ih => ?_) 0 (Nat.zero_le _) (fun i hi => absurd hi (Nat.not_lt_zero _))
  intro hp
  refine qV.go 30 [2, 31] ok_79 ?_
  simp only [qW_nop, qW_iconst, qW_iloadn, qW_aloadn, qW_istoren, qW_iinc, qW_iand, qW_ifne, qW_icge, qW_goto, qW_getf, qW_iald, qW_cs2_0, qW_iret1, Nat.reduceAdd, Nat.reduceMul, Nat.reduceBEq, Nat.reduceEqDiff, Nat.reduceLT, Nat.reduceLeDiff, Nat.zero_le, nI_add, nI_mul, nI_cl, qin_eq, qofI, qlg_0, qlg_s, qls_i0, qls_r0, qls_l0, qls_1, qls_2, qkl_i, qkl_r, qkl_l, qkl_n, qIsI_i, qIsL_l, qIsR_r, qint_i, qil_i, qil_r, qil_l, qf4_0, qf4_1, qf4_2, qf4_3, qf2_0, qf2_1, qcs_n, qcs_i, qcs_r, qcs_l, qst_n, qst_c, qJ_0, qJ_st, qJ_go, qfl_I, qfl_Z, qfl_L, qfl_R, qrI_i, qrL_l, qrV_v, qRcv_0, qRcv_s, eq_self, true_and, and_true, true_or, or_true, false_and, and_false, false_or, or_false, ite_true, if_true, if_false, Bool.true_or, Bool.false_or, Bool.or_false, beq_self_eq_true, Bool.false_eq_true, bX6_endsAll_0, bX6_endsAll_2, bX6_endsAll_31, bX6_endsAll_37, kX6_endsAll_0, kX6_endsAll_2, kX6_endsAll_31, kX6_endsAll_37, zCb_k hr, zCb_6 hr, zCb_7 hr, zCb_8 hr, zCb_9 hr, zCb_10 hr, zCb_11 hr, zCb_12 hr, zCb_13 hr, zCb_14 hr, zCb_15 hr, zCb_16 hr, zCb_a1 hr, zCb_a2 hr, zCb_a3 hr, zCb_a4 hr, zCb_a5 hr, zCb_a6 hr, zCb_a7 hr, zCb_a8 hr, zCb_a9 hr, zCb_a10 hr, zCb_a11 hr]
  rw [h.q]
  simp (disch := omega) only [nI_leI, nI_ltI, nI_eq, nI_cl, qin_eq, nI_add, nI_mul, qb_z, qb_t, qb_f, nI_ne0', Nat.reduceAdd, Bool.false_eq_true, if_false, if_true, true_and, and_true, Nat.reduceEqDiff, not_true_eq_false, not_false_eq_true, false_implies, true_implies, ite_true, ite_false]
  refine ⟨fun g => ?_, fun g => ?_⟩
  · have : q = C 0 1 := by omega
    subst this
    have : zendsAll C s = true := (zall_iff _ _).mpr hp
    rw [this]
    rfl
  · have hq1 : q < C 0 1 := by omega
    have g9 := wQ q hq1
    have hl := zboth_lt hw hq1
    have nx : (!(zOpen C q) || decide (zboth C q &&& s ≠ 0)) = true → qV 79 3 (.inl fun v σ' => v = qb (zendsAll C s) ∧ σ' = σ) 31 [some (qr r), some (qi (nI s)), some (qi (nI q))] [] σ := by
      intro hz
      have := ih hq1 (fun i hi => by
        by_cases e : i = q
        · subst e; exact hz
        · exact hp i (by omega))
      refine qV.go 30 [2] ok_79 ?_
      simp only [qW_nop, qW_iconst, qW_iloadn, qW_aloadn, qW_istoren, qW_iinc, qW_iand, qW_ifne, qW_icge, qW_goto, qW_getf, qW_iald, qW_cs2_0, qW_iret1, Nat.reduceAdd, Nat.reduceMul, Nat.reduceBEq, Nat.reduceEqDiff, Nat.reduceLT, Nat.reduceLeDiff, Nat.zero_le, nI_add, nI_mul, nI_cl, qin_eq, qofI, qlg_0, qlg_s, qls_i0, qls_r0, qls_l0, qls_1, qls_2, qkl_i, qkl_r, qkl_l, qkl_n, qIsI_i, qIsL_l, qIsR_r, qint_i, qil_i, qil_r, qil_l, qf4_0, qf4_1, qf4_2, qf4_3, qf2_0, qf2_1, qcs_n, qcs_i, qcs_r, qcs_l, qst_n, qst_c, qJ_0, qJ_st, qJ_go, qfl_I, qfl_Z, qfl_L, qfl_R, qrI_i, qrL_l, qrV_v, qRcv_0, qRcv_s, eq_self, true_and, and_true, true_or, or_true, false_and, and_false, false_or, or_false, ite_true, if_true, if_false, Bool.true_or, Bool.false_or, Bool.or_false, beq_self_eq_true, Bool.false_eq_true, bX6_endsAll_0, bX6_endsAll_2, bX6_endsAll_31, bX6_endsAll_37, kX6_endsAll_0, kX6_endsAll_2, kX6_endsAll_31, kX6_endsAll_37, zCb_k hr, zCb_6 hr, zCb_7 hr, zCb_8 hr, zCb_9 hr, zCb_10 hr, zCb_11 hr, zCb_12 hr, zCb_13 hr, zCb_14 hr, zCb_15 hr, zCb_16 hr, zCb_a1 hr, zCb_a2 hr, zCb_a3 hr, zCb_a4 hr, zCb_a5 hr, zCb_a6 hr, zCb_a7 hr, zCb_a8 hr, zCb_a9 hr, zCb_a10 hr, zCb_a11 hr]
      exact this
    rw [h.en hq1]
    simp (disch := omega) only [nI_leI, nI_ltI, nI_eq, nI_cl, qin_eq, nI_add, nI_mul, qb_z, qb_t, qb_f, nI_ne0', Nat.reduceAdd, Bool.false_eq_true, if_false, if_true, true_and, and_true, Nat.reduceEqDiff, not_true_eq_false, not_false_eq_true, false_implies, true_implies, ite_true, ite_false]
    refine ⟨fun h9 => nx (by unfold zOpen; rw [decide_eq_false h9]; rfl), fun h9 => ?_⟩
    refine qBI.fn (x_pairOf hr h hw hq1) (by decide) ?_
    rw [nI_and, nI_ne0' (Nat.lt_of_le_of_lt Nat.and_le_left hs), Nat.and_comm]
    refine ⟨fun h8 => nx (by rw [decide_eq_true h8, Bool.or_true]), fun h8 => ?_⟩
    have : zendsAll C s = false := by
      cases hz : zendsAll C s with
      | false => rfl
      | true =>
        have := (zall_iff _ _).mp hz q hq1
        unfold zOpen at this
        simp [h9, h8] at this
    rw [this]
    exact ⟨rfl, rfl⟩
set_option maxRecDepth 20000 in
theorem x_fewest {σ : qSg} {r : Nat} {C : zC} (hr : zCb r) (h : zX0 σ r C) (hw : zW C) : qFI 4 78 [qr r] σ (nI (zending C)) := by
  obtain ⟨wb, wq, ww1, ww2, wh1, wh2, wo, wm, wB, wQ⟩ := id hw
  have hp := Nat.two_pow_pos (C 0 0)
  have hp2 := zpow_le hw
  refine qCI.of [some (qr r), none, none, none] ok_78 (Nat.le_of_ble_eq_true rfl) rfl ?_
  refine qV.go 30 [13] ok_78 ?_
  simp only [qW_nop, qW_iconst, qW_iloadn, qW_aloadn, qW_istoren, qW_iinc, qW_isub, qW_ishl, qW_ifeq, qW_icge, qW_icgt, qW_goto, qW_getf, qW_cs1_0, qW_cs2_0, qW_iret0, Nat.reduceAdd, Nat.reduceMul, Nat.reduceBEq, Nat.reduceEqDiff, Nat.reduceLT, Nat.reduceLeDiff, Nat.zero_le, nI_add, nI_mul, nI_cl, qin_eq, qofI, qlg_0, qlg_s, qls_i0, qls_r0, qls_l0, qls_1, qls_2, qkl_i, qkl_r, qkl_l, qkl_n, qIsI_i, qIsL_l, qIsR_r, qint_i, qil_i, qil_r, qil_l, qf4_0, qf4_1, qf4_2, qf4_3, qf2_0, qf2_1, qcs_n, qcs_i, qcs_r, qcs_l, qst_n, qst_c, qJ_0, qJ_st, qJ_go, qfl_I, qfl_Z, qfl_L, qfl_R, qrI_i, qrL_l, qrV_v, qRcv_0, qRcv_s, eq_self, true_and, and_true, true_or, or_true, false_and, and_false, false_or, or_false, ite_true, if_true, if_false, Bool.true_or, Bool.false_or, Bool.or_false, beq_self_eq_true, Bool.false_eq_true, bX6_fewestEnders_0, bX6_fewestEnders_13, bX6_fewestEnders_39, bX6_fewestEnders_45, kX6_fewestEnders_0, kX6_fewestEnders_13, kX6_fewestEnders_39, kX6_fewestEnders_45, zCb_k hr, zCb_6 hr, zCb_7 hr, zCb_8 hr, zCb_9 hr, zCb_10 hr, zCb_11 hr, zCb_12 hr, zCb_13 hr, zCb_14 hr, zCb_15 hr, zCb_16 hr, zCb_a1 hr, zCb_a2 hr, zCb_a3 hr, zCb_a4 hr, zCb_a5 hr, zCb_a6 hr, zCb_a7 hr, zCb_a8 hr, zCb_a9 hr, zCb_a10 hr, zCb_a11 hr]
  rw [h.b, qshl1 (by omega), nI_sub (by omega)]
  refine qdown (n := 2 ^ C 0 0) (P := fun s => qV 78 4 (.inl fun v σ' => v = nI (zending C) ∧ σ' = σ) 13 [some (qr r), some (qi (nI (2 ^ C 0 0 - 1))), some (qi (nI (zef C s))), some (qi (nI s))] [] σ) (fun s hs ih => ?_) 0 (Nat.zero_le _)
  have hl := zef_lt hw s hs
  have e : zef C (s + 1) = if zpop s < zpop (zef C s) ∧ zendsAll C s = true then s else zef C s := rfl
  refine qV.go 30 [13, 39] ok_78 ?_
  simp only [qW_nop, qW_iconst, qW_iloadn, qW_aloadn, qW_istoren, qW_iinc, qW_isub, qW_ishl, qW_ifeq, qW_icge, qW_icgt, qW_goto, qW_getf, qW_cs1_0, qW_cs2_0, qW_iret0, Nat.reduceAdd, Nat.reduceMul, Nat.reduceBEq, Nat.reduceEqDiff, Nat.reduceLT, Nat.reduceLeDiff, Nat.zero_le, nI_add, nI_mul, nI_cl, qin_eq, qofI, qlg_0, qlg_s, qls_i0, qls_r0, qls_l0, qls_1, qls_2, qkl_i, qkl_r, qkl_l, qkl_n, qIsI_i, qIsL_l, qIsR_r, qint_i, qil_i, qil_r, qil_l, qf4_0, qf4_1, qf4_2, qf4_3, qf2_0, qf2_1, qcs_n, qcs_i, qcs_r, qcs_l, qst_n, qst_c, qJ_0, qJ_st, qJ_go, qfl_I, qfl_Z, qfl_L, qfl_R, qrI_i, qrL_l, qrV_v, qRcv_0, qRcv_s, eq_self, true_and, and_true, true_or, or_true, false_and, and_false, false_or, or_false, ite_true, if_true, if_false, Bool.true_or, Bool.false_or, Bool.or_false, beq_self_eq_true, Bool.false_eq_true, bX6_fewestEnders_0, bX6_fewestEnders_13, bX6_fewestEnders_39, bX6_fewestEnders_45, kX6_fewestEnders_0, kX6_fewestEnders_13, kX6_fewestEnders_39, kX6_fewestEnders_45, zCb_k hr, zCb_6 hr, zCb_7 hr, zCb_8 hr, zCb_9 hr, zCb_10 hr, zCb_11 hr, zCb_12 hr, zCb_13 hr, zCb_14 hr, zCb_15 hr, zCb_16 hr, zCb_a1 hr, zCb_a2 hr, zCb_a3 hr, zCb_a4 hr, zCb_a5 hr, zCb_a6 hr, zCb_a7 hr, zCb_a8 hr, zCb_a9 hr, zCb_a10 hr, zCb_a11 hr]
  simp (disch := omega) only [nI_leI, nI_ltI, nI_eq, nI_cl, qin_eq, nI_add, nI_mul, qb_z, qb_t, qb_f, nI_ne0', Nat.reduceAdd, Bool.false_eq_true, if_false, if_true, true_and, and_true, Nat.reduceEqDiff, not_true_eq_false, not_false_eq_true, false_implies, true_implies, ite_true, ite_false]
  refine ⟨fun g => ?_, fun g => ?_⟩
  · have : s = 2 ^ C 0 0 := by omega
    subst this
    rfl
  · have st : ∀ v, v = nI (zef C (s + 1)) → qV 78 4 (.inl fun v σ' => v = nI (zending C) ∧ σ' = σ) 39 [some (qr r), some (qi (nI (2 ^ C 0 0 - 1))), some (qi v), some (qi (nI s))] [] σ := by
      intro v hv
      subst hv
      refine qV.go 30 [13] ok_78 ?_
      simp only [qW_nop, qW_iconst, qW_iloadn, qW_aloadn, qW_istoren, qW_iinc, qW_isub, qW_ishl, qW_ifeq, qW_icge, qW_icgt, qW_goto, qW_getf, qW_cs1_0, qW_cs2_0, qW_iret0, Nat.reduceAdd, Nat.reduceMul, Nat.reduceBEq, Nat.reduceEqDiff, Nat.reduceLT, Nat.reduceLeDiff, Nat.zero_le, nI_add, nI_mul, nI_cl, qin_eq, qofI, qlg_0, qlg_s, qls_i0, qls_r0, qls_l0, qls_1, qls_2, qkl_i, qkl_r, qkl_l, qkl_n, qIsI_i, qIsL_l, qIsR_r, qint_i, qil_i, qil_r, qil_l, qf4_0, qf4_1, qf4_2, qf4_3, qf2_0, qf2_1, qcs_n, qcs_i, qcs_r, qcs_l, qst_n, qst_c, qJ_0, qJ_st, qJ_go, qfl_I, qfl_Z, qfl_L, qfl_R, qrI_i, qrL_l, qrV_v, qRcv_0, qRcv_s, eq_self, true_and, and_true, true_or, or_true, false_and, and_false, false_or, or_false, ite_true, if_true, if_false, Bool.true_or, Bool.false_or, Bool.or_false, beq_self_eq_true, Bool.false_eq_true, bX6_fewestEnders_0, bX6_fewestEnders_13, bX6_fewestEnders_39, bX6_fewestEnders_45, kX6_fewestEnders_0, kX6_fewestEnders_13, kX6_fewestEnders_39, kX6_fewestEnders_45, zCb_k hr, zCb_6 hr, zCb_7 hr, zCb_8 hr, zCb_9 hr, zCb_10 hr, zCb_11 hr, zCb_12 hr, zCb_13 hr, zCb_14 hr, zCb_15 hr, zCb_16 hr, zCb_a1 hr, zCb_a2 hr, zCb_a3 hr, zCb_a4 hr, zCb_a5 hr, zCb_a6 hr, zCb_a7 hr, zCb_a8 hr, zCb_a9 hr, zCb_a10 hr, zCb_a11 hr]
      exact ih (by omega)
    rw [e] at st
    refine qBI.fn (x_bits σ (by omega)) (by decide) (qBI.fn (x_bits σ (by omega)) (by decide) ?_)
    have p1 : zpop s ≤ 31 := zpop_le (k := 31) (by omega)
    have p2 : zpop (zef C s) ≤ 31 := zpop_le (k := 31) (by omega)
    simp (disch := omega) only [nI_leI, nI_ltI, nI_eq, nI_cl, qin_eq, nI_add, nI_mul, qb_z, qb_t, qb_f, nI_ne0', Nat.reduceAdd, Bool.false_eq_true, if_false, if_true, true_and, and_true, Nat.reduceEqDiff, not_true_eq_false, not_false_eq_true, false_implies, true_implies, ite_true, ite_false]
    refine ⟨fun h1 => st _ (by rw [if_neg (fun hh => by omega)]), fun h1 => ?_⟩
    refine qBI.fn (x_endsAll hr h hw (by omega)) (by decide) ?_
    simp (disch := omega) only [nI_leI, nI_ltI, nI_eq, nI_cl, qin_eq, nI_add, nI_mul, qb_z, qb_t, qb_f, nI_ne0', Nat.reduceAdd, Bool.false_eq_true, if_false, if_true, true_and, and_true, Nat.reduceEqDiff, not_true_eq_false, not_false_eq_true, false_implies, true_implies, ite_true, ite_false]
    refine ⟨fun h2 => st _ (by rw [if_neg (fun hh => by rw [h2] at hh; exact Bool.false_ne_true hh.2)]), fun h2 => st _ ?_⟩
    rw [if_pos ⟨by omega, by simpa using h2⟩]
set_option maxRecDepth 20000 in
theorem x_circle {σ : qSg} {r : Nat} {C : zC} (hr : zCb r) (h : zX0 σ r C) (hw : zW C) {b : Nat} (hb : b < C 0 0) : qFI 3 83 [qr r, qi (nI b)] σ (nI (zcircle C b)) := by
  obtain ⟨wb, wq, ww1, ww2, wh1, wh2, wo, wm, wB, wQ⟩ := id hw
  refine qCI.of [some (qr r), some (qi (nI b)), none, none, none, none] ok_83 (Nat.le_of_ble_eq_true rfl) rfl ?_
  refine qV.go 30 [6] ok_83 ?_
  simp only [qW_nop, qW_iconst, qW_bipush, qW_iloadn, qW_iload, qW_aloadn, qW_istoren, qW_istore, qW_iinc, qW_iand, qW_ior, qW_ishl, qW_ifeq, qW_ifne, qW_icge, qW_goto, qW_getf, qW_iald, qW_cs2_0, qW_iret0, Nat.reduceAdd, Nat.reduceMul, Nat.reduceBEq, Nat.reduceEqDiff, Nat.reduceLT, Nat.reduceLeDiff, Nat.zero_le, nI_add, nI_mul, nI_cl, qin_eq, qofI, qlg_0, qlg_s, qls_i0, qls_r0, qls_l0, qls_1, qls_2, qkl_i, qkl_r, qkl_l, qkl_n, qIsI_i, qIsL_l, qIsR_r, qint_i, qil_i, qil_r, qil_l, qf4_0, qf4_1, qf4_2, qf4_3, qf2_0, qf2_1, qcs_n, qcs_i, qcs_r, qcs_l, qst_n, qst_c, qJ_0, qJ_st, qJ_go, qfl_I, qfl_Z, qfl_L, qfl_R, qrI_i, qrL_l, qrV_v, qRcv_0, qRcv_s, eq_self, true_and, and_true, true_or, or_true, false_and, and_false, false_or, or_false, ite_true, if_true, if_false, Bool.true_or, Bool.false_or, Bool.or_false, beq_self_eq_true, Bool.false_eq_true, bX6_circleOf_0, bX6_circleOf_6, bX6_circleOf_15, bX6_circleOf_54, bX6_circleOf_60, bX6_circleOf_66, kX6_circleOf_0, kX6_circleOf_6, kX6_circleOf_15, kX6_circleOf_54, kX6_circleOf_60, kX6_circleOf_66, zCb_k hr, zCb_6 hr, zCb_7 hr, zCb_8 hr, zCb_9 hr, zCb_10 hr, zCb_11 hr, zCb_12 hr, zCb_13 hr, zCb_14 hr, zCb_15 hr, zCb_16 hr, zCb_a1 hr, zCb_a2 hr, zCb_a3 hr, zCb_a4 hr, zCb_a5 hr, zCb_a6 hr, zCb_a7 hr, zCb_a8 hr, zCb_a9 hr, zCb_a10 hr, zCb_a11 hr]
  rw [qshl1 (by omega)]
  refine qdown (n := 8) (P := fun n => ∀ l4 l5 : Option qPV, qV 83 3 (.inl fun v σ' => v = nI (zcircle C b) ∧ σ' = σ) 6 [some (qr r), some (qi (nI b)), some (qi (nI (zcr C b n))), some (qi (nI n)), l4, l5] [] σ) (fun n hn ih => ?_) 0 (Nat.zero_le _) none none
  intro l4 l5
  have hc := zcr_lt hw hb n
  refine qV.go 30 [6, 15] ok_83 ?_
  simp only [qW_nop, qW_iconst, qW_bipush, qW_iloadn, qW_iload, qW_aloadn, qW_istoren, qW_istore, qW_iinc, qW_iand, qW_ior, qW_ishl, qW_ifeq, qW_ifne, qW_icge, qW_goto, qW_getf, qW_iald, qW_cs2_0, qW_iret0, Nat.reduceAdd, Nat.reduceMul, Nat.reduceBEq, Nat.reduceEqDiff, Nat.reduceLT, Nat.reduceLeDiff, Nat.zero_le, nI_add, nI_mul, nI_cl, qin_eq, qofI, qlg_0, qlg_s, qls_i0, qls_r0, qls_l0, qls_1, qls_2, qkl_i, qkl_r, qkl_l, qkl_n, qIsI_i, qIsL_l, qIsR_r, qint_i, qil_i, qil_r, qil_l, qf4_0, qf4_1, qf4_2, qf4_3, qf2_0, qf2_1, qcs_n, qcs_i, qcs_r, qcs_l, qst_n, qst_c, qJ_0, qJ_st, qJ_go, qfl_I, qfl_Z, qfl_L, qfl_R, qrI_i, qrL_l, qrV_v, qRcv_0, qRcv_s, eq_self, true_and, and_true, true_or, or_true, false_and, and_false, false_or, or_false, ite_true, if_true, if_false, Bool.true_or, Bool.false_or, Bool.or_false, beq_self_eq_true, Bool.false_eq_true, bX6_circleOf_0, bX6_circleOf_6, bX6_circleOf_15, bX6_circleOf_54, bX6_circleOf_60, bX6_circleOf_66, kX6_circleOf_0, kX6_circleOf_6, kX6_circleOf_15, kX6_circleOf_54, kX6_circleOf_60, kX6_circleOf_66, zCb_k hr, zCb_6 hr, zCb_7 hr, zCb_8 hr, zCb_9 hr, zCb_10 hr, zCb_11 hr, zCb_12 hr, zCb_13 hr, zCb_14 hr, zCb_15 hr, zCb_16 hr, zCb_a1 hr, zCb_a2 hr, zCb_a3 hr, zCb_a4 hr, zCb_a5 hr, zCb_a6 hr, zCb_a7 hr, zCb_a8 hr, zCb_a9 hr, zCb_a10 hr, zCb_a11 hr]
  simp (disch := omega) only [nI_leI, nI_ltI, nI_eq, nI_cl, qin_eq, nI_add, nI_mul, qb_z, qb_t, qb_f, nI_ne0', Nat.reduceAdd, Bool.false_eq_true, if_false, if_true, true_and, and_true, Nat.reduceEqDiff, not_true_eq_false, not_false_eq_true, false_implies, true_implies, ite_true, ite_false]
  refine ⟨fun g => ?_, fun g => ?_⟩
  · have : n = 8 := by omega
    subst this
    rfl
  · refine qdown (n := C 0 1) (P := fun q => ∀ l5 : Option qPV, qV 83 3 (.inl fun v σ' => v = nI (zcircle C b) ∧ σ' = σ) 15 [some (qr r), some (qi (nI b)), some (qi (nI (zcq C (zcr C b n) q))), some (qi (nI n)), some (qi (nI q)), l5] [] σ) (fun q hq ih2 => ?_) 0 (Nat.zero_le _) l5
    intro l5
    refine qV.go 30 [6, 15, 54] ok_83 ?_
    simp only [qW_nop, qW_iconst, qW_bipush, qW_iloadn, qW_iload, qW_aloadn, qW_istoren, qW_istore, qW_iinc, qW_iand, qW_ior, qW_ishl, qW_ifeq, qW_ifne, qW_icge, qW_goto, qW_getf, qW_iald, qW_cs2_0, qW_iret0, Nat.reduceAdd, Nat.reduceMul, Nat.reduceBEq, Nat.reduceEqDiff, Nat.reduceLT, Nat.reduceLeDiff, Nat.zero_le, nI_add, nI_mul, nI_cl, qin_eq, qofI, qlg_0, qlg_s, qls_i0, qls_r0, qls_l0, qls_1, qls_2, qkl_i, qkl_r, qkl_l, qkl_n, qIsI_i, qIsL_l, qIsR_r, qint_i, qil_i, qil_r, qil_l, qf4_0, qf4_1, qf4_2, qf4_3, qf2_0, qf2_1, qcs_n, qcs_i, qcs_r, qcs_l, qst_n, qst_c, qJ_0, qJ_st, qJ_go, qfl_I, qfl_Z, qfl_L, qfl_R, qrI_i, qrL_l, qrV_v, qRcv_0, qRcv_s, eq_self, true_and, and_true, true_or, or_true, false_and, and_false, false_or, or_false, ite_true, if_true, if_false, Bool.true_or, Bool.false_or, Bool.or_false, beq_self_eq_true, Bool.false_eq_true, bX6_circleOf_0, bX6_circleOf_6, bX6_circleOf_15, bX6_circleOf_54, bX6_circleOf_60, bX6_circleOf_66, kX6_circleOf_0, kX6_circleOf_6, kX6_circleOf_15, kX6_circleOf_54, kX6_circleOf_60, kX6_circleOf_66, zCb_k hr, zCb_6 hr, zCb_7 hr, zCb_8 hr, zCb_9 hr, zCb_10 hr, zCb_11 hr, zCb_12 hr, zCb_13 hr, zCb_14 hr, zCb_15 hr, zCb_16 hr, zCb_a1 hr, zCb_a2 hr, zCb_a3 hr, zCb_a4 hr, zCb_a5 hr, zCb_a6 hr, zCb_a7 hr, zCb_a8 hr, zCb_a9 hr, zCb_a10 hr, zCb_a11 hr]
    rw [h.q]
    simp (disch := omega) only [nI_leI, nI_ltI, nI_eq, nI_cl, qin_eq, nI_add, nI_mul, qb_z, qb_t, qb_f, nI_ne0', Nat.reduceAdd, Bool.false_eq_true, if_false, if_true, true_and, and_true, Nat.reduceEqDiff, not_true_eq_false, not_false_eq_true, false_implies, true_implies, ite_true, ite_false]
    refine ⟨fun g2 => ?_, fun g2 => ?_⟩
    · have : q = C 0 1 := by omega
      subst this
      exact ih (by omega) _ _
    · have hq1 : q < C 0 1 := by omega
      have g9 := wQ q hq1
      have hl := zcq_lt hw hc q (by omega)
      have e : zcq C (zcr C b n) (q + 1) = if zOpen C q = true ∧ zboth C q &&& zcq C (zcr C b n) q ≠ 0 then zcq C (zcr C b n) q ||| zboth C q else zcq C (zcr C b n) q := rfl
      have st : ∀ v l5, v = nI (zcq C (zcr C b n) (q + 1)) → qV 83 3 (.inl fun v σ' => v = nI (zcircle C b) ∧ σ' = σ) 54 [some (qr r), some (qi (nI b)), some (qi v), some (qi (nI n)), some (qi (nI q)), l5] [] σ := by
        intro v l5 hv
        subst hv
        refine qV.go 30 [15] ok_83 ?_
        simp only [qW_nop, qW_iconst, qW_bipush, qW_iloadn, qW_iload, qW_aloadn, qW_istoren, qW_istore, qW_iinc, qW_iand, qW_ior, qW_ishl, qW_ifeq, qW_ifne, qW_icge, qW_goto, qW_getf, qW_iald, qW_cs2_0, qW_iret0, Nat.reduceAdd, Nat.reduceMul, Nat.reduceBEq, Nat.reduceEqDiff, Nat.reduceLT, Nat.reduceLeDiff, Nat.zero_le, nI_add, nI_mul, nI_cl, qin_eq, qofI, qlg_0, qlg_s, qls_i0, qls_r0, qls_l0, qls_1, qls_2, qkl_i, qkl_r, qkl_l, qkl_n, qIsI_i, qIsL_l, qIsR_r, qint_i, qil_i, qil_r, qil_l, qf4_0, qf4_1, qf4_2, qf4_3, qf2_0, qf2_1, qcs_n, qcs_i, qcs_r, qcs_l, qst_n, qst_c, qJ_0, qJ_st, qJ_go, qfl_I, qfl_Z, qfl_L, qfl_R, qrI_i, qrL_l, qrV_v, qRcv_0, qRcv_s, eq_self, true_and, and_true, true_or, or_true, false_and, and_false, false_or, or_false, ite_true, if_true, if_false, Bool.true_or, Bool.false_or, Bool.or_false, beq_self_eq_true, Bool.false_eq_true, bX6_circleOf_0, bX6_circleOf_6, bX6_circleOf_15, bX6_circleOf_54, bX6_circleOf_60, bX6_circleOf_66, kX6_circleOf_0, kX6_circleOf_6, kX6_circleOf_15, kX6_circleOf_54, kX6_circleOf_60, kX6_circleOf_66, zCb_k hr, zCb_6 hr, zCb_7 hr, zCb_8 hr, zCb_9 hr, zCb_10 hr, zCb_11 hr, zCb_12 hr, zCb_13 hr, zCb_14 hr, zCb_15 hr, zCb_16 hr, zCb_a1 hr, zCb_a2 hr, zCb_a3 hr, zCb_a4 hr, zCb_a5 hr, zCb_a6 hr, zCb_a7 hr, zCb_a8 hr, zCb_a9 hr, zCb_a10 hr, zCb_a11 hr]
        exact ih2 hq1 l5
      rw [e] at st
      refine qBI.fn (x_pairOf hr h hw hq1) (by decide) ?_
      rw [h.en hq1]
      simp (disch := omega) only [nI_leI, nI_ltI, nI_eq, nI_cl, qin_eq, nI_add, nI_mul, qb_z, qb_t, qb_f, nI_ne0', Nat.reduceAdd, Bool.false_eq_true, if_false, if_true, true_and, and_true, Nat.reduceEqDiff, not_true_eq_false, not_false_eq_true, false_implies, true_implies, ite_true, ite_false]
      refine ⟨fun h9 => st _ _ ?_, fun h9 => ?_⟩
      · rw [if_neg (fun hh => h9 (of_decide_eq_true hh.1))]
      · rw [nI_and, nI_ne0' (Nat.lt_of_le_of_lt Nat.and_le_left (by omega)), Nat.and_comm, nI_or]
        refine ⟨fun h8 => st _ _ ?_, fun h8 => st _ _ ?_⟩
        · rw [if_neg (fun hh => hh.2 h8)]
        · rw [if_pos ⟨decide_eq_true h9, h8⟩]
theorem zlow_m {s b : Nat} (hb : b < 31) (h : s.testBit b = true) : (s &&& (2 ^ b - 1) = 0) = (zlow s = b) := by
  obtain ⟨z1, z2, z3⟩ := zlow_spec hb h
  apply propext
  constructor
  · intro h0
    by_cases e : zlow s = b
    · exact e
    · have := congrArg (fun n => n.testBit (zlow s)) h0
      simp only [Nat.testBit_and, Nat.testBit_two_pow_sub_one, Nat.zero_testBit, z2, Bool.true_and] at this
      simp at this
      omega
  · intro e
    apply Nat.eq_of_testBit_eq
    intro i
    rw [Nat.testBit_and, Nat.testBit_two_pow_sub_one, Nat.zero_testBit]
    by_cases hi : i < b
    · rw [z3 i (by omega), Bool.false_and]
    · rw [decide_eq_false hi, Bool.and_false]
set_option maxRecDepth 20000 in
theorem x_circles {σ : qSg} {r : Nat} {C : zC} (hr : zCb r) (h : zX0 σ r C) (hw : zW C) : qFI 4 84 [qr r] σ (nI (zcount (fun b => decide (zlow (zcircle C b) = b)) (C 0 0))) := by
  obtain ⟨wb, wq, ww1, ww2, wh1, wh2, wo, wm, wB, wQ⟩ := id hw
  refine qCI.of [some (qr r), none, none, none] ok_84 (Nat.le_of_ble_eq_true rfl) rfl ?_
  refine qV.go 30 [4] ok_84 ?_
  simp only [qW_nop, qW_iconst, qW_iloadn, qW_aloadn, qW_istoren, qW_iinc, qW_isub, qW_iand, qW_ishl, qW_ifne, qW_icge, qW_goto, qW_getf, qW_cs2_0, qW_iret0, Nat.reduceAdd, Nat.reduceMul, Nat.reduceBEq, Nat.reduceEqDiff, Nat.reduceLT, Nat.reduceLeDiff, Nat.zero_le, nI_add, nI_mul, nI_cl, qin_eq, qofI, qlg_0, qlg_s, qls_i0, qls_r0, qls_l0, qls_1, qls_2, qkl_i, qkl_r, qkl_l, qkl_n, qIsI_i, qIsL_l, qIsR_r, qint_i, qil_i, qil_r, qil_l, qf4_0, qf4_1, qf4_2, qf4_3, qf2_0, qf2_1, qcs_n, qcs_i, qcs_r, qcs_l, qst_n, qst_c, qJ_0, qJ_st, qJ_go, qfl_I, qfl_Z, qfl_L, qfl_R, qrI_i, qrL_l, qrV_v, qRcv_0, qRcv_s, eq_self, true_and, and_true, true_or, or_true, false_and, and_false, false_or, or_false, ite_true, if_true, if_false, Bool.true_or, Bool.false_or, Bool.or_false, beq_self_eq_true, Bool.false_eq_true, bX6_howManyCircles_0, bX6_howManyCircles_4, bX6_howManyCircles_31, bX6_howManyCircles_37, kX6_howManyCircles_0, kX6_howManyCircles_4, kX6_howManyCircles_31, kX6_howManyCircles_37, zCb_k hr, zCb_6 hr, zCb_7 hr, zCb_8 hr, zCb_9 hr, zCb_10 hr, zCb_11 hr, zCb_12 hr, zCb_13 hr, zCb_14 hr, zCb_15 hr, zCb_16 hr, zCb_a1 hr, zCb_a2 hr, zCb_a3 hr, zCb_a4 hr, zCb_a5 hr, zCb_a6 hr, zCb_a7 hr, zCb_a8 hr, zCb_a9 hr, zCb_a10 hr, zCb_a11 hr]
  refine qdown (n := C 0 0) (P := fun b => ∀ l3 : Option qPV, qV 84 4 (.inl fun v σ' => v = nI (zcount (fun b => decide (zlow (zcircle C b) = b)) (C 0 0)) ∧ σ' = σ) 4 [some (qr r), some (qi (nI (zcount (fun b => decide (zlow (zcircle C b) = b)) b))), some (qi (nI b)), l3] [] σ) (fun b hb ih => ?_) 0 (Nat.zero_le _) none
  intro l3
  refine qV.go 30 [4] ok_84 ?_
  simp only [qW_nop, qW_iconst, qW_iloadn, qW_aloadn, qW_istoren, qW_iinc, qW_isub, qW_iand, qW_ishl, qW_ifne, qW_icge, qW_goto, qW_getf, qW_cs2_0, qW_iret0, Nat.reduceAdd, Nat.reduceMul, Nat.reduceBEq, Nat.reduceEqDiff, Nat.reduceLT, Nat.reduceLeDiff, Nat.zero_le, nI_add, nI_mul, nI_cl, qin_eq, qofI, qlg_0, qlg_s, qls_i0, qls_r0, qls_l0, qls_1, qls_2, qkl_i, qkl_r, qkl_l, qkl_n, qIsI_i, qIsL_l, qIsR_r, qint_i, qil_i, qil_r, qil_l, qf4_0, qf4_1, qf4_2, qf4_3, qf2_0, qf2_1, qcs_n, qcs_i, qcs_r, qcs_l, qst_n, qst_c, qJ_0, qJ_st, qJ_go, qfl_I, qfl_Z, qfl_L, qfl_R, qrI_i, qrL_l, qrV_v, qRcv_0, qRcv_s, eq_self, true_and, and_true, true_or, or_true, false_and, and_false, false_or, or_false, ite_true, if_true, if_false, Bool.true_or, Bool.false_or, Bool.or_false, beq_self_eq_true, Bool.false_eq_true, bX6_howManyCircles_0, bX6_howManyCircles_4, bX6_howManyCircles_31, bX6_howManyCircles_37, kX6_howManyCircles_0, kX6_howManyCircles_4, kX6_howManyCircles_31, kX6_howManyCircles_37, zCb_k hr, zCb_6 hr, zCb_7 hr, zCb_8 hr, zCb_9 hr, zCb_10 hr, zCb_11 hr, zCb_12 hr, zCb_13 hr, zCb_14 hr, zCb_15 hr, zCb_16 hr, zCb_a1 hr, zCb_a2 hr, zCb_a3 hr, zCb_a4 hr, zCb_a5 hr, zCb_a6 hr, zCb_a7 hr, zCb_a8 hr, zCb_a9 hr, zCb_a10 hr, zCb_a11 hr]
  rw [h.b]
  simp (disch := omega) only [nI_leI, nI_ltI, nI_eq, nI_cl, qin_eq, nI_add, nI_mul, qb_z, qb_t, qb_f, nI_ne0', Nat.reduceAdd, Bool.false_eq_true, if_false, if_true, true_and, and_true, Nat.reduceEqDiff, not_true_eq_false, not_false_eq_true, false_implies, true_implies, ite_true, ite_false]
  refine ⟨fun g => ?_, fun g => ?_⟩
  · have : b = C 0 0 := by omega
    subst this
    rfl
  · have hb1 : b < C 0 0 := by omega
    have p := Nat.two_pow_pos b
    have hl : zcircle C b < 256 := zcr_lt hw hb1 8
    refine qBI.fn (x_circle hr h hw hb1) (by decide) ?_
    rw [qshl1 (by omega), nI_sub (by omega), nI_and, nI_ne0' (Nat.lt_of_le_of_lt Nat.and_le_left (by omega)), zlow_m (s := zcircle C b) (by omega) (zcr_bit C b 8)]
    have := ih hb1
    simp only [zcount] at this
    refine ⟨fun h8 => ?_, fun h8 => ?_⟩
    · have h8 : ¬ zlow (zcircle C b) = b := h8
      rw [if_neg (by simpa using h8)] at this
      exact this _
    · have h8 : zlow (zcircle C b) = b := h8
      rw [if_pos (by simpa using h8)] at this
      exact this _
set_option maxRecDepth 20000 in
theorem x_isSide {σ : qSg} {r : Nat} {C : zC} (hr : zCb r) (h : zX0 σ r C) (hw : zW C) {s : Nat} (hs : s < 2147483648) : qFI 3 86 [qr r, qi (nI s)] σ (qb (zside C s)) := by
  obtain ⟨wb, wq, ww1, ww2, wh1, wh2, wo, wm, wB, wQ⟩ := id hw
  refine qCI.of [some (qr r), some (qi (nI s)), none] ok_86 (Nat.le_of_ble_eq_true rfl) rfl ?_
  refine qV.go 30 [2] ok_86 ?_
  simp only [qW_nop, qW_iconst, qW_iloadn, qW_aloadn, qW_istoren, qW_iinc, qW_iand, qW_iceq, qW_ifne, qW_icge, qW_goto, qW_getf, qW_iald, qW_cs1_0, qW_cs2_0, qW_iret1, Nat.reduceAdd, Nat.reduceMul, Nat.reduceBEq, Nat.reduceEqDiff, Nat.reduceLT, Nat.reduceLeDiff, Nat.zero_le, nI_add, nI_mul, nI_cl, qin_eq, qofI, qlg_0, qlg_s, qls_i0, qls_r0, qls_l0, qls_1, qls_2, qkl_i, qkl_r, qkl_l, qkl_n, qIsI_i, qIsL_l, qIsR_r, qint_i, qil_i, qil_r, qil_l, qf4_0, qf4_1, qf4_2, qf4_3, qf2_0, qf2_1, qcs_n, qcs_i, qcs_r, qcs_l, qst_n, qst_c, qJ_0, qJ_st, qJ_go, qfl_I, qfl_Z, qfl_L, qfl_R, qrI_i, qrL_l, qrV_v, qRcv_0, qRcv_s, eq_self, true_and, and_true, true_or, or_true, false_and, and_false, false_or, or_false, ite_true, if_true, if_false, Bool.true_or, Bool.false_or, Bool.or_false, beq_self_eq_true, Bool.false_eq_true, bX6_isSide_0, bX6_isSide_2, bX6_isSide_35, bX6_isSide_41, kX6_isSide_0, kX6_isSide_2, kX6_isSide_35, kX6_isSide_41, zCb_k hr, zCb_6 hr, zCb_7 hr, zCb_8 hr, zCb_9 hr, zCb_10 hr, zCb_11 hr, zCb_12 hr, zCb_13 hr, zCb_14 hr, zCb_15 hr, zCb_16 hr, zCb_a1 hr, zCb_a2 hr, zCb_a3 hr, zCb_a4 hr, zCb_a5 hr, zCb_a6 hr, zCb_a7 hr, zCb_a8 hr, zCb_a9 hr, zCb_a10 hr, zCb_a11 hr]
  refine qdown (n := C 0 1) (P := fun q => (∀ i, i < q → (!(zOpen C i) || decide (zpop (zboth C i &&& s) = 1)) = true) → qV 86 3 (.inl fun v σ' => v = qb (zside C s) ∧ σ' = σ) 2 [some (qr r), some (qi (nI s)), some (qi (nI q))] [] σ) (fun q hq ih => ?_) 0 (Nat.zero_le _) (fun i hi => absurd hi (Nat.not_lt_zero _))
  intro hp
  refine qV.go 30 [2, 35] ok_86 ?_
  simp only [qW_nop, qW_iconst, qW_iloadn, qW_aloadn, qW_istoren, qW_iinc, qW_iand, qW_iceq, qW_ifne, qW_icge, qW_goto, qW_getf, qW_iald, qW_cs1_0, qW_cs2_0, qW_iret1, Nat.reduceAdd, Nat.reduceMul, Nat.reduceBEq, Nat.reduceEqDiff, Nat.reduceLT, Nat.reduceLeDiff, Nat.zero_le, nI_add, nI_mul, nI_cl, qin_eq, qofI, qlg_0, qlg_s, qls_i0, qls_r0, qls_l0, qls_1, qls_2, qkl_i, qkl_r, qkl_l, qkl_n, qIsI_i, qIsL_l, qIsR_r, qint_i, qil_i, qil_r, qil_l, qf4_0, qf4_1, qf4_2, qf4_3, qf2_0, qf2_1, qcs_n, qcs_i, qcs_r, qcs_l, qst_n, qst_c, qJ_0, qJ_st, qJ_go, qfl_I, qfl_Z, qfl_L, qfl_R, qrI_i, qrL_l, qrV_v, qRcv_0, qRcv_s, eq_self, true_and, and_true, true_or, or_true, false_and, and_false, false_or, or_false, ite_true, if_true, if_false, Bool.true_or, Bool.false_or, Bool.or_false, beq_self_eq_true, Bool.false_eq_true, bX6_isSide_0, bX6_isSide_2, bX6_isSide_35, bX6_isSide_41, kX6_isSide_0, kX6_isSide_2, kX6_isSide_35, kX6_isSide_41, zCb_k hr, zCb_6 hr, zCb_7 hr, zCb_8 hr, zCb_9 hr, zCb_10 hr, zCb_11 hr, zCb_12 hr, zCb_13 hr, zCb_14 hr, zCb_15 hr, zCb_16 hr, zCb_a1 hr, zCb_a2 hr, zCb_a3 hr, zCb_a4 hr, zCb_a5 hr, zCb_a6 hr, zCb_a7 hr, zCb_a8 hr, zCb_a9 hr, zCb_a10 hr, zCb_a11 hr]
  rw [h.q]
  simp (disch := omega) only [nI_leI, nI_ltI, nI_eq, nI_cl, qin_eq, nI_add, nI_mul, qb_z, qb_t, qb_f, nI_ne0', Nat.reduceAdd, Bool.false_eq_true, if_false, if_true, true_and, and_true, Nat.reduceEqDiff, not_true_eq_false, not_false_eq_true, false_implies, true_implies, ite_true, ite_false]
  refine ⟨fun g => ?_, fun g => ?_⟩
  · have : q = C 0 1 := by omega
    subst this
    have : zside C s = true := (zall_iff _ _).mpr hp
    rw [this]
    rfl
  · have hq1 : q < C 0 1 := by omega
    have g9 := wQ q hq1
    have hl := zboth_lt hw hq1
    have nx : (!(zOpen C q) || decide (zpop (zboth C q &&& s) = 1)) = true → qV 86 3 (.inl fun v σ' => v = qb (zside C s) ∧ σ' = σ) 35 [some (qr r), some (qi (nI s)), some (qi (nI q))] [] σ := by
      intro hz
      have := ih hq1 (fun i hi => by
        by_cases e : i = q
        · subst e; exact hz
        · exact hp i (by omega))
      refine qV.go 30 [2] ok_86 ?_
      simp only [qW_nop, qW_iconst, qW_iloadn, qW_aloadn, qW_istoren, qW_iinc, qW_iand, qW_iceq, qW_ifne, qW_icge, qW_goto, qW_getf, qW_iald, qW_cs1_0, qW_cs2_0, qW_iret1, Nat.reduceAdd, Nat.reduceMul, Nat.reduceBEq, Nat.reduceEqDiff, Nat.reduceLT, Nat.reduceLeDiff, Nat.zero_le, nI_add, nI_mul, nI_cl, qin_eq, qofI, qlg_0, qlg_s, qls_i0, qls_r0, qls_l0, qls_1, qls_2, qkl_i, qkl_r, qkl_l, qkl_n, qIsI_i, qIsL_l, qIsR_r, qint_i, qil_i, qil_r, qil_l, qf4_0, qf4_1, qf4_2, qf4_3, qf2_0, qf2_1, qcs_n, qcs_i, qcs_r, qcs_l, qst_n, qst_c, qJ_0, qJ_st, qJ_go, qfl_I, qfl_Z, qfl_L, qfl_R, qrI_i, qrL_l, qrV_v, qRcv_0, qRcv_s, eq_self, true_and, and_true, true_or, or_true, false_and, and_false, false_or, or_false, ite_true, if_true, if_false, Bool.true_or, Bool.false_or, Bool.or_false, beq_self_eq_true, Bool.false_eq_true, bX6_isSide_0, bX6_isSide_2, bX6_isSide_35, bX6_isSide_41, kX6_isSide_0, kX6_isSide_2, kX6_isSide_35, kX6_isSide_41, zCb_k hr, zCb_6 hr, zCb_7 hr, zCb_8 hr, zCb_9 hr, zCb_10 hr, zCb_11 hr, zCb_12 hr, zCb_13 hr, zCb_14 hr, zCb_15 hr, zCb_16 hr, zCb_a1 hr, zCb_a2 hr, zCb_a3 hr, zCb_a4 hr, zCb_a5 hr, zCb_a6 hr, zCb_a7 hr, zCb_a8 hr, zCb_a9 hr, zCb_a10 hr, zCb_a11 hr]
      exact this
    rw [h.en hq1]
    simp (disch := omega) only [nI_leI, nI_ltI, nI_eq, nI_cl, qin_eq, nI_add, nI_mul, qb_z, qb_t, qb_f, nI_ne0', Nat.reduceAdd, Bool.false_eq_true, if_false, if_true, true_and, and_true, Nat.reduceEqDiff, not_true_eq_false, not_false_eq_true, false_implies, true_implies, ite_true, ite_false]
    refine ⟨fun h9 => nx (by unfold zOpen; rw [decide_eq_false h9]; rfl), fun h9 => ?_⟩
    refine qBI.fn (x_pairOf hr h hw hq1) (by decide) ?_
    have hl2 : zboth C q &&& s < 256 := Nat.lt_of_le_of_lt Nat.and_le_left hl
    rw [nI_and, Nat.and_comm]
    refine qBI.fn (x_bits σ (by omega)) (by decide) ?_
    have p1 : zpop (zboth C q &&& s) ≤ 8 := zpop_le (k := 8) hl2
    simp (disch := omega) only [nI_leI, nI_ltI, nI_eq, nI_cl, qin_eq, nI_add, nI_mul, qb_z, qb_t, qb_f, nI_ne0', Nat.reduceAdd, Bool.false_eq_true, if_false, if_true, true_and, and_true, Nat.reduceEqDiff, not_true_eq_false, not_false_eq_true, false_implies, true_implies, ite_true, ite_false]
    refine ⟨fun h8 => nx (by rw [decide_eq_true h8, Bool.or_true]), fun h8 => ?_⟩
    have : zside C s = false := by
      cases hz : zside C s with
      | false => rfl
      | true =>
        have := (zall_iff _ _).mp hz q hq1
        unfold zOpen at this
        simp [h9, h8] at this
    rw [this]
    rfl
set_option maxRecDepth 20000 in
theorem x_leastSide {σ : qSg} {r : Nat} {C : zC} (hr : zCb r) (h : zX0 σ r C) (hw : zW C) : qFI 4 85 [qr r] σ (if zsidef C = 2 ^ C 0 0 then iI (-1) else nI (zsidef C)) := by
  obtain ⟨wb, wq, ww1, ww2, wh1, wh2, wo, wm, wB, wQ⟩ := id hw
  have hp := Nat.two_pow_pos (C 0 0)
  have hp2 := zpow_le hw
  refine qCI.of [some (qr r), none] ok_85 (Nat.le_of_ble_eq_true rfl) rfl ?_
  refine qV.go 30 [2] ok_85 ?_
  simp only [qW_nop, qW_iconst, qW_iconstm, qW_iloadn, qW_aloadn, qW_istoren, qW_iinc, qW_ishl, qW_ifeq, qW_icge, qW_goto, qW_getf, qW_cs2_0, qW_iret0, Nat.reduceAdd, Nat.reduceMul, Nat.reduceBEq, Nat.reduceEqDiff, Nat.reduceLT, Nat.reduceLeDiff, Nat.zero_le, nI_add, nI_mul, nI_cl, qin_eq, qofI, qlg_0, qlg_s, qls_i0, qls_r0, qls_l0, qls_1, qls_2, qkl_i, qkl_r, qkl_l, qkl_n, qIsI_i, qIsL_l, qIsR_r, qint_i, qil_i, qil_r, qil_l, qf4_0, qf4_1, qf4_2, qf4_3, qf2_0, qf2_1, qcs_n, qcs_i, qcs_r, qcs_l, qst_n, qst_c, qJ_0, qJ_st, qJ_go, qfl_I, qfl_Z, qfl_L, qfl_R, qrI_i, qrL_l, qrV_v, qRcv_0, qRcv_s, eq_self, true_and, and_true, true_or, or_true, false_and, and_false, false_or, or_false, ite_true, if_true, if_false, Bool.true_or, Bool.false_or, Bool.or_false, beq_self_eq_true, Bool.false_eq_true, bX6_leastSide_0, bX6_leastSide_2, bX6_leastSide_22, bX6_leastSide_28, kX6_leastSide_0, kX6_leastSide_2, kX6_leastSide_22, kX6_leastSide_28, zCb_k hr, zCb_6 hr, zCb_7 hr, zCb_8 hr, zCb_9 hr, zCb_10 hr, zCb_11 hr, zCb_12 hr, zCb_13 hr, zCb_14 hr, zCb_15 hr, zCb_16 hr, zCb_a1 hr, zCb_a2 hr, zCb_a3 hr, zCb_a4 hr, zCb_a5 hr, zCb_a6 hr, zCb_a7 hr, zCb_a8 hr, zCb_a9 hr, zCb_a10 hr, zCb_a11 hr]
  refine qdown (n := 2 ^ C 0 0) (P := fun s => (∀ t, t < s → zside C t = false) → qV 85 4 (.inl fun v σ' => v = (if zsidef C = 2 ^ C 0 0 then iI (-1) else nI (zsidef C)) ∧ σ' = σ) 2 [some (qr r), some (qi (nI s))] [] σ) (fun s hs ih => ?_) 0 (Nat.zero_le _) (fun t ht => absurd ht (Nat.not_lt_zero _))
  intro hn
  refine qV.go 30 [2] ok_85 ?_
  simp only [qW_nop, qW_iconst, qW_iconstm, qW_iloadn, qW_aloadn, qW_istoren, qW_iinc, qW_ishl, qW_ifeq, qW_icge, qW_goto, qW_getf, qW_cs2_0, qW_iret0, Nat.reduceAdd, Nat.reduceMul, Nat.reduceBEq, Nat.reduceEqDiff, Nat.reduceLT, Nat.reduceLeDiff, Nat.zero_le, nI_add, nI_mul, nI_cl, qin_eq, qofI, qlg_0, qlg_s, qls_i0, qls_r0, qls_l0, qls_1, qls_2, qkl_i, qkl_r, qkl_l, qkl_n, qIsI_i, qIsL_l, qIsR_r, qint_i, qil_i, qil_r, qil_l, qf4_0, qf4_1, qf4_2, qf4_3, qf2_0, qf2_1, qcs_n, qcs_i, qcs_r, qcs_l, qst_n, qst_c, qJ_0, qJ_st, qJ_go, qfl_I, qfl_Z, qfl_L, qfl_R, qrI_i, qrL_l, qrV_v, qRcv_0, qRcv_s, eq_self, true_and, and_true, true_or, or_true, false_and, and_false, false_or, or_false, ite_true, if_true, if_false, Bool.true_or, Bool.false_or, Bool.or_false, beq_self_eq_true, Bool.false_eq_true, bX6_leastSide_0, bX6_leastSide_2, bX6_leastSide_22, bX6_leastSide_28, kX6_leastSide_0, kX6_leastSide_2, kX6_leastSide_22, kX6_leastSide_28, zCb_k hr, zCb_6 hr, zCb_7 hr, zCb_8 hr, zCb_9 hr, zCb_10 hr, zCb_11 hr, zCb_12 hr, zCb_13 hr, zCb_14 hr, zCb_15 hr, zCb_16 hr, zCb_a1 hr, zCb_a2 hr, zCb_a3 hr, zCb_a4 hr, zCb_a5 hr, zCb_a6 hr, zCb_a7 hr, zCb_a8 hr, zCb_a9 hr, zCb_a10 hr, zCb_a11 hr]
  rw [h.b, qshl1 (by omega)]
  simp (disch := omega) only [nI_leI, nI_ltI, nI_eq, nI_cl, qin_eq, nI_add, nI_mul, qb_z, qb_t, qb_f, nI_ne0', Nat.reduceAdd, Bool.false_eq_true, if_false, if_true, true_and, and_true, Nat.reduceEqDiff, not_true_eq_false, not_false_eq_true, false_implies, true_implies, ite_true, ite_false]
  refine ⟨fun g => ?_, fun g => ?_⟩
  · have : s = 2 ^ C 0 0 := by omega
    subst this
    have e : zsidef C = 2 ^ C 0 0 := by
      unfold zsidef
      rw [zlst_no _ _ _ (fun m _ h2 => hn m (by omega)), Nat.zero_add]
    rw [if_pos e]
  · refine qBI.fn (x_isSide hr h hw (s := s) (by omega)) (by decide) ?_
    simp (disch := omega) only [nI_leI, nI_ltI, nI_eq, nI_cl, qin_eq, nI_add, nI_mul, qb_z, qb_t, qb_f, nI_ne0', Nat.reduceAdd, Bool.false_eq_true, if_false, if_true, true_and, and_true, Nat.reduceEqDiff, not_true_eq_false, not_false_eq_true, false_implies, true_implies, ite_true, ite_false]
    refine ⟨fun h8 => ih (by omega) (fun t ht => ?_), fun h8 => ?_⟩
    · by_cases e : t = s
      · subst e; exact h8
      · exact hn t (by omega)
    · have h8 : zside C s = true := by simpa using h8
      have e : zsidef C = s := zlst_is _ _ _ _ (Nat.zero_le _) (by omega) h8 (fun m _ h2 => hn m h2)
      rw [if_neg (by omega), e]
