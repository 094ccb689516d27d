/-! the class's calls: trays, the tape -/
set_option maxRecDepth 20000 in
theorem X_tray {σ : qSg} {A : zA} (hA : zXA σ A) (hW : zAW A) (t s n : Int32) : qCI 3 147 [qr 0, qi t, qi s, qi n] σ (zXCall σ (yTray A t s n)) := by
  have hT := hA.2.2.1
  have wT := hW.2.2.2.1
  refine qCI.of [some (qr 0), some (qi t), some (qi s), some (qi n)] ok_147 (Nat.le_of_ble_eq_true rfl) rfl ?_
  have no : ztok t s n = false → qV 147 3 (.inl (zXCall σ (yTray A t s n))) 35 [some (qr 0), some (qi t), some (qi s), some (qi n)] [] σ := by
    intro hz
    refine qV.go 30 [9999] ok_147 ?_
    simp only [qW_nop, qW_iconst, qW_ldc2, qW_lconst, qW_iloadn, qW_aloadn, qW_i2l, qW_ifeq, qW_ifne, qW_getf, qW_cs3_0, qW_cv1_0, qW_cv2_0, qW_cv4_2, qW_iret1, Nat.reduceAdd, Nat.reduceMul, Nat.reduceBEq, Nat.reduceEqDiff, Nat.reduceLT, Nat.reduceLeDiff, Nat.zero_le, nI_add, nI_mul, nI_cl, qin_eq, qofI, qlg_0, qlg_s, qls_i0, qls_r0, qls_l0, qls_1, qls_2, qkl_i, qkl_r, qkl_l, qkl_n, qIsI_i, qIsL_l, qIsR_r, qint_i, qil_i, qil_r, qil_l, qf4_0, qf4_1, qf4_2, qf4_3, qf2_0, qf2_1, qcs_n, qcs_i, qcs_r, qcs_l, qst_n, qst_c, qJ_0, qJ_st, qJ_go, qfl_I, qfl_Z, qfl_L, qfl_R, qrI_i, qrL_l, qrV_v, qRcv_0, qRcv_s, eq_self, true_and, and_true, true_or, or_true, false_and, and_false, false_or, or_false, ite_true, if_true, if_false, Bool.true_or, Bool.false_or, Bool.or_false, beq_self_eq_true, Bool.false_eq_true, bX11_tray_0, bX11_tray_35, bX11_tray_41, kX11_tray_0, kX11_tray_35, kX11_tray_41, qK_0, qR_0_0, qK_1, qR_0_1, qK_13, qR_0_2, qK_25, qR_0_3, qK_40, qR_0_4, qK_41, qR_0_5, qK_45, qR_0_6, qK_46, qR_0_7, qK_50, qR_0_8, qK_53, qR_0_9, qK_66, qR_0_10, qK_74, qR_0_11, qK_80, qR_0_12, qK_82, qR_0_14, qK_83, qR_0_15, qK_84]
    exact g_deny hA hW zCls.rf (by decide) (by unfold yTray; rw [if_neg (by rw [hz]; decide)]; rfl)
  refine qV.go 30 [35] ok_147 ?_
  simp only [qW_nop, qW_iconst, qW_ldc2, qW_lconst, qW_iloadn, qW_aloadn, qW_i2l, qW_ifeq, qW_ifne, qW_getf, qW_cs3_0, qW_cv1_0, qW_cv2_0, qW_cv4_2, qW_iret1, Nat.reduceAdd, Nat.reduceMul, Nat.reduceBEq, Nat.reduceEqDiff, Nat.reduceLT, Nat.reduceLeDiff, Nat.zero_le, nI_add, nI_mul, nI_cl, qin_eq, qofI, qlg_0, qlg_s, qls_i0, qls_r0, qls_l0, qls_1, qls_2, qkl_i, qkl_r, qkl_l, qkl_n, qIsI_i, qIsL_l, qIsR_r, qint_i, qil_i, qil_r, qil_l, qf4_0, qf4_1, qf4_2, qf4_3, qf2_0, qf2_1, qcs_n, qcs_i, qcs_r, qcs_l, qst_n, qst_c, qJ_0, qJ_st, qJ_go, qfl_I, qfl_Z, qfl_L, qfl_R, qrI_i, qrL_l, qrV_v, qRcv_0, qRcv_s, eq_self, true_and, and_true, true_or, or_true, false_and, and_false, false_or, or_false, ite_true, if_true, if_false, Bool.true_or, Bool.false_or, Bool.or_false, beq_self_eq_true, Bool.false_eq_true, bX11_tray_0, bX11_tray_35, bX11_tray_41, kX11_tray_0, kX11_tray_35, kX11_tray_41, qK_0, qR_0_0, qK_1, qR_0_1, qK_13, qR_0_2, qK_25, qR_0_3, qK_40, qR_0_4, qK_41, qR_0_5, qK_45, qR_0_6, qK_46, qR_0_7, qK_50, qR_0_8, qK_53, qR_0_9, qK_66, qR_0_10, qK_74, qR_0_11, qK_80, qR_0_12, qK_82, qR_0_14, qK_83, qR_0_15, qK_84, qK_46, qR_46_0, qK_47, qR_46_1, qK_48, qR_46_2, qK_49]
  refine qBI.fn (x_known σ t) (by decide) ?_
  simp (disch := omega) only [nI_leI, nI_ltI, nI_eq, nI_cl, qin_eq, nI_add, nI_mul, qb_z, qb_t, qb_f, nI_ne0', Nat.reduceAdd, Bool.false_eq_true, if_false, if_true, true_and, and_true, Nat.reduceEqDiff, not_true_eq_false, not_false_eq_true, false_implies, true_implies, ite_true, ite_false, Bool.not_eq_false, Bool.not_eq_true]
  refine ⟨fun h1 => no (by unfold ztok; rw [h1]; rfl), fun h1 => ?_⟩
  refine qBI.fn (x_withinI σ s (lo := 0) (hi := 3) (by decide) (by decide)) (by decide) ?_
  simp (disch := omega) only [nI_leI, nI_ltI, nI_eq, nI_cl, qin_eq, nI_add, nI_mul, qb_z, qb_t, qb_f, nI_ne0', Nat.reduceAdd, Bool.false_eq_true, if_false, if_true, true_and, and_true, Nat.reduceEqDiff, not_true_eq_false, not_false_eq_true, false_implies, true_implies, ite_true, ite_false, Bool.not_eq_false, Bool.not_eq_true]
  refine ⟨fun h2 => no (by unfold ztok; rw [h2, Bool.and_false]; rfl), fun h2 => ?_⟩
  refine qBI.fn (x_withinI σ n (lo := 0) (hi := 60) (by decide) (by decide)) (by decide) ?_
  simp (disch := omega) only [nI_leI, nI_ltI, nI_eq, nI_cl, qin_eq, nI_add, nI_mul, qb_z, qb_t, qb_f, nI_ne0', Nat.reduceAdd, Bool.false_eq_true, if_false, if_true, true_and, and_true, Nat.reduceEqDiff, not_true_eq_false, not_false_eq_true, false_implies, true_implies, ite_true, ite_false, Bool.not_eq_false, Bool.not_eq_true]
  refine And.symm ⟨fun h3 => no (by unfold ztok; rw [h3, Bool.and_false]), fun h3 => ?_⟩
  have eY : yTray A t s n = yT (sT A (zTlay (aT A) t.toInt.toNat s.toInt.toNat n.toInt.toNat)) := by
    unfold yTray
    rw [if_pos (by unfold ztok; rw [h1, h2, h3]; rfl)]
  rw [eY]
  obtain ⟨t', ht, rfl⟩ := zrg_nI h1
  obtain ⟨s', -, hs, rfl⟩ := zih_nI h2
  obtain ⟨n', -, hn, rfl⟩ := zih_nI h3
  rw [nI_tn (by omega), nI_tn (by omega), nI_tn (by omega)]
  refine qBV.of (x_lay hT wT ht hs hn) (by decide) (fun σ1 g1 => ?_)
  obtain ⟨T1, f1⟩ := g1
  exact g_grant (hA.t hW f1 T1) (hW.t (zTW_lay wT hs hn)) (zCls.g f1 (fun a j h => by omega) (fun a j h => by omega)) (by decide) rfl
set_option maxRecDepth 20000 in
theorem X_placeStatus {σ : qSg} {A : zA} (hA : zXA σ A) (hW : zAW A) (t p : Int32) : qFI 4 148 [qr 0, qi t, qi p] σ (nI (zwp (aT A) t p)) := by
  have hT := hA.2.2.1
  have wT := hW.2.2.2.1
  refine qCI.of [some (qr 0), some (qi t), some (qi p)] ok_148 (Nat.le_of_ble_eq_true rfl) rfl ?_
  refine qV.go 30 [9999] ok_148 ?_
  simp only [qW_nop, qW_iconst, qW_iloadn, qW_aloadn, qW_ifeq, qW_ifne, qW_goto, qW_getf, qW_cv2_0, qW_cv3_0, qW_iret0, Nat.reduceAdd, Nat.reduceMul, Nat.reduceBEq, Nat.reduceEqDiff, Nat.reduceLT, Nat.reduceLeDiff, Nat.zero_le, nI_add, nI_mul, nI_cl, qin_eq, qofI, qlg_0, qlg_s, qls_i0, qls_r0, qls_l0, qls_1, qls_2, qkl_i, qkl_r, qkl_l, qkl_n, qIsI_i, qIsL_l, qIsR_r, qint_i, qil_i, qil_r, qil_l, qf4_0, qf4_1, qf4_2, qf4_3, qf2_0, qf2_1, qcs_n, qcs_i, qcs_r, qcs_l, qst_n, qst_c, qJ_0, qJ_st, qJ_go, qfl_I, qfl_Z, qfl_L, qfl_R, qrI_i, qrL_l, qrV_v, qRcv_0, qRcv_s, eq_self, true_and, and_true, true_or, or_true, false_and, and_false, false_or, or_false, ite_true, if_true, if_false, Bool.true_or, Bool.false_or, Bool.or_false, beq_self_eq_true, Bool.false_eq_true, bX11_placeStatus_0, bX11_placeStatus_13, bX11_placeStatus_26, bX11_placeStatus_42, bX11_placeStatus_43, kX11_placeStatus_0, kX11_placeStatus_13, kX11_placeStatus_26, kX11_placeStatus_42, kX11_placeStatus_43, qK_0, qR_0_0, qK_1, qR_0_1, qK_13, qR_0_2, qK_25, qR_0_3, qK_40, qR_0_4, qK_41, qR_0_5, qK_45, qR_0_6, qK_46, qR_0_7, qK_50, qR_0_8, qK_53, qR_0_9, qK_66, qR_0_10, qK_74, qR_0_11, qK_80, qR_0_12, qK_82, qR_0_14, qK_83, qR_0_15, qK_84, qK_46, qR_46_0, qK_47, qR_46_1, qK_48, qR_46_2, qK_49]
  refine qBI.fn (x_known σ t) (by decide) ?_
  simp (disch := omega) only [nI_leI, nI_ltI, nI_eq, nI_cl, qin_eq, nI_add, nI_mul, qb_z, qb_t, qb_f, nI_ne0', Nat.reduceAdd, Bool.false_eq_true, if_false, if_true, true_and, and_true, Nat.reduceEqDiff, not_true_eq_false, not_false_eq_true, false_implies, true_implies, ite_true, ite_false, Bool.not_eq_false, Bool.not_eq_true]
  refine And.symm ⟨fun h1 => ?_, fun h1 => ?_⟩
  · unfold zwp; rw [if_pos h1]
  obtain ⟨t', ht, rfl⟩ := zrg_nI h1
  have e0 : zwp (aT A) (nI t') p = match (aT A).2.1 t' with | none => 2 | some n => if zrg p n then 0 else 3 := by
    unfold zwp
    rw [if_neg (by rw [h1]; decide), nI_tn (by omega)]
    cases (aT A).2.1 t' <;> rfl
  rw [e0]
  refine qBI.fn (x_laid hT wT (nI t')) (by decide) ?_
  rw [zT_l ht]
  cases e : (aT A).2.1 t' with
  | none =>
    simp only [Option.isSome]
    simp (disch := omega) only [nI_leI, nI_ltI, nI_eq, nI_cl, qin_eq, nI_add, nI_mul, qb_z, qb_t, qb_f, nI_ne0', Nat.reduceAdd, Bool.false_eq_true, if_false, if_true, true_and, and_true, Nat.reduceEqDiff, not_true_eq_false, not_false_eq_true, false_implies, true_implies, ite_true, ite_false, Bool.not_eq_false, Bool.not_eq_true]
  | some n =>
    simp only [Option.isSome]
    simp (disch := omega) only [nI_leI, nI_ltI, nI_eq, nI_cl, qin_eq, nI_add, nI_mul, qb_z, qb_t, qb_f, nI_ne0', Nat.reduceAdd, Bool.false_eq_true, if_false, if_true, true_and, and_true, Nat.reduceEqDiff, not_true_eq_false, not_false_eq_true, false_implies, true_implies, ite_true, ite_false, Bool.not_eq_false, Bool.not_eq_true]
    refine qBI.fn (x_has hT wT (nI t') p) (by decide) ?_
    have ez : zsz (aT A) (nI t').toInt.toNat = n := by rw [nI_tn (by omega)]; unfold zsz; rw [e]; rfl
    rw [zT_l ht, e, ez]
    simp only [Option.isSome, Bool.true_and]
    simp (disch := omega) only [nI_leI, nI_ltI, nI_eq, nI_cl, qin_eq, nI_add, nI_mul, qb_z, qb_t, qb_f, nI_ne0', Nat.reduceAdd, Bool.false_eq_true, if_false, if_true, true_and, and_true, Nat.reduceEqDiff, not_true_eq_false, not_false_eq_true, false_implies, true_implies, ite_true, ite_false, Bool.not_eq_false, Bool.not_eq_true]
    refine ⟨fun h => ?_, fun h => ?_⟩
    · rw [if_neg (by rw [h]; decide)]
    · rw [if_pos h]
theorem zwp_ok {T : zT} {t p : Int32} (h : zwp T t p = 0) : ∃ t' p' n, t' < 4 ∧ t = nI t' ∧ p = nI p' ∧ T.2.1 t' = some n ∧ p' < n := by
  unfold zwp at h
  split at h
  · cases h
  · rename_i h1
    have h1 : zrg t 4 = true := by simpa using h1
    obtain ⟨t', ht, rfl⟩ := zrg_nI h1
    rw [nI_tn (by omega)] at h
    cases e : T.2.1 t' with
    | none => rw [e] at h; cases h
    | some n =>
      rw [e] at h
      have h : (if zrg p n = true then 0 else 3) = 0 := h
      by_cases e2 : zrg p n = true
      · obtain ⟨p', hp, rfl⟩ := zrg_nI e2
        exact ⟨t', p', n, ht, rfl, rfl, e, hp⟩
      · rw [if_neg e2] at h; cases h
set_option maxRecDepth 20000 in
theorem X_write {σ : qSg} {A : zA} (hA : zXA σ A) (hW : zAW A) (t p : Int32) (v : Int64) : qCI 5 149 [qr 0, qi t, qi p, ql v] σ (zXCall σ (yWrite A t p v)) := by
  have hT := hA.2.2.1
  have wT := hW.2.2.2.1
  have hl := zwp_lt (aT A) t p
  refine qCI.of [some (qr 0), some (qi t), some (qi p), some (ql v), none, none] ok_149 (Nat.le_of_ble_eq_true rfl) rfl ?_
  refine qV.go 30 [9999] ok_149 ?_
  simp only [qW_nop, qW_iloadn, qW_iload, qW_lloadn, qW_aloadn, qW_istore, qW_ifeq, qW_getf, qW_cv1_0, qW_cv2_0, qW_cv3_0, qW_cv4_2, qW_iret1, Nat.reduceAdd, Nat.reduceMul, Nat.reduceBEq, Nat.reduceEqDiff, Nat.reduceLT, Nat.reduceLeDiff, Nat.zero_le, nI_add, nI_mul, nI_cl, qin_eq, qofI, qlg_0, qlg_s, qls_i0, qls_r0, qls_l0, qls_1, qls_2, qkl_i, qkl_r, qkl_l, qkl_n, qIsI_i, qIsL_l, qIsR_r, qint_i, qil_i, qil_r, qil_l, qf4_0, qf4_1, qf4_2, qf4_3, qf2_0, qf2_1, qcs_n, qcs_i, qcs_r, qcs_l, qst_n, qst_c, qJ_0, qJ_st, qJ_go, qfl_I, qfl_Z, qfl_L, qfl_R, qrI_i, qrL_l, qrV_v, qRcv_0, qRcv_s, eq_self, true_and, and_true, true_or, or_true, false_and, and_false, false_or, or_false, ite_true, if_true, if_false, Bool.true_or, Bool.false_or, Bool.or_false, beq_self_eq_true, Bool.false_eq_true, bX11_write_0, bX11_write_20, kX11_write_0, kX11_write_20, qK_0, qR_0_0, qK_1, qR_0_1, qK_13, qR_0_2, qK_25, qR_0_3, qK_40, qR_0_4, qK_41, qR_0_5, qK_45, qR_0_6, qK_46, qR_0_7, qK_50, qR_0_8, qK_53, qR_0_9, qK_66, qR_0_10, qK_74, qR_0_11, qK_80, qR_0_12, qK_82, qR_0_14, qK_83, qR_0_15, qK_84, qK_46, qR_46_0, qK_47, qR_46_1, qK_48, qR_46_2, qK_49]
  refine qBI.fn (X_placeStatus hA hW t p) (by decide) ?_
  rw [nI_ne0' (by omega)]
  refine And.symm ⟨fun g => ?_, fun g => ?_⟩
  · exact g_deny hA hW zCls.rf (by decide) (by unfold yWrite; rw [if_neg g]; rfl)
  · have eY : yWrite A t p v = yT (sT A (zTput (aT A) t.toInt.toNat p.toInt.toNat v)) := by unfold yWrite; rw [if_pos g]
    rw [eY]
    obtain ⟨t', p', n, ht, rfl, rfl, hn, hp⟩ := zwp_ok g
    have n60 := (wT t' ht).2 n hn
    rw [nI_tn (by omega), nI_tn (by omega)]
    refine qBV.of (x_put hT wT ht hn hp v) (by decide) (fun σ1 g1 => ?_)
    obtain ⟨T1, f1⟩ := g1
    exact g_grant (hA.t hW (f1.wk (fun a j h => False.elim h) (fun a j h => h)) T1) (hW.t (zTW_put wT _ _ _)) (zCls.g f1 (fun a j h => False.elim h) (fun a j h => by omega)) (by decide) rfl
set_option maxRecDepth 20000 in
theorem X_read {σ : qSg} {A : zA} (hA : zXA σ A) (hW : zAW A) (t p : Int32) : qCL 5 150 [qr 0, qi t, qi p] σ (zXCalL σ (yRead A t p)) := by
  have hl := zwp_lt (aT A) t p
  refine qCL.of [some (qr 0), some (qi t), some (qi p), none] ok_150 (Nat.le_of_ble_eq_true rfl) rfl ?_
  refine qV.go 30 [9999] ok_150 ?_
  simp only [qW_nop, qW_iconst, qW_iloadn, qW_aloadn, qW_istoren, qW_i2l, qW_ifeq, qW_getf, qW_lret, qW_cv2_0, qW_cv3_0, qW_cv3_1, qW_putf0, Nat.reduceAdd, Nat.reduceMul, Nat.reduceBEq, Nat.reduceEqDiff, Nat.reduceLT, Nat.reduceLeDiff, Nat.zero_le, nI_add, nI_mul, nI_cl, qin_eq, qofI, qlg_0, qlg_s, qls_i0, qls_r0, qls_l0, qls_1, qls_2, qkl_i, qkl_r, qkl_l, qkl_n, qIsI_i, qIsL_l, qIsR_r, qint_i, qil_i, qil_r, qil_l, qf4_0, qf4_1, qf4_2, qf4_3, qf2_0, qf2_1, qcs_n, qcs_i, qcs_r, qcs_l, qst_n, qst_c, qJ_0, qJ_st, qJ_go, qfl_I, qfl_Z, qfl_L, qfl_R, qrI_i, qrL_l, qrV_v, qRcv_0, qRcv_s, eq_self, true_and, and_true, true_or, or_true, false_and, and_false, false_or, or_false, ite_true, if_true, if_false, Bool.true_or, Bool.false_or, Bool.or_false, beq_self_eq_true, Bool.false_eq_true, bX11_read_0, bX11_read_18, kX11_read_0, kX11_read_18, qK_0, qR_0_0, qK_1, qR_0_1, qK_13, qR_0_2, qK_25, qR_0_3, qK_40, qR_0_4, qK_41, qR_0_5, qK_45, qR_0_6, qK_46, qR_0_7, qK_50, qR_0_8, qK_53, qR_0_9, qK_66, qR_0_10, qK_74, qR_0_11, qK_80, qR_0_12, qK_82, qR_0_14, qK_83, qR_0_15, qK_84, qK_46, qR_46_0, qK_47, qR_46_1, qK_48, qR_46_2, qK_49]
  refine qBI.fn (X_placeStatus hA hW t p) (by decide) ?_
  rw [nI_ne0' (by omega)]
  refine And.symm ⟨fun g => ?_, fun g => ?_⟩
  · refine qBI.of (x_refuse _ _) (by decide) (fun r σ2 g2 => ?_)
    obtain ⟨rfl, rfl⟩ := g2
    refine ⟨?_, hA.st hW _, zCls.st, hW⟩
    unfold yRead
    rw [if_neg g]
    rfl
  · have S := hA.st hW 0
    have wT := hW.2.2.2.1
    unfold yRead
    rw [if_pos g, g]
    obtain ⟨t', p', n, ht, rfl, rfl, hn, hp⟩ := zwp_ok g
    have n60 := (wT t' ht).2 n hn
    rw [nI_tn (by omega), nI_tn (by omega)]
    refine qBL.fn (x_get S.2.2.1 wT ht hn hp) (by decide) ?_
    exact ⟨rfl, S, zCls.st, hW⟩
theorem zXA.tp {σ σ' : qSg} {A : zA} (h : zXA σ A) (hW : zAW A) {t : zTp} (f : zF (fun a j => a = 51 ∨ (a = 50 ∧ j = 1)) σ σ') (hT : zXtp σ' t) : zXA σ' (sP A t) := by
  have h3 := hW.2.1
  obtain ⟨k1, k2, k3, k4, k5, k6, k7, k8, k9, k10⟩ := h
  have e : ∀ a j, ¬ (a = 51 ∨ (a = 50 ∧ j = 1)) → σ'.1 a j = σ.1 a j := fun a j hn => f.1 a j hn
  have e2 : ∀ a j, σ'.2 a j = σ.2 a j := fun a j => by rw [f.2]
  refine ⟨k1.fr (fun a j ha => e _ _ (by omega)) (fun j => e2 _ _), k2.fr h3 (e _ _ (by omega)) (fun a j _ _ => e _ _ (by omega)) (fun a j _ _ => e2 _ _), k3.fr (fun j => e _ _ (by omega)) (fun j => e _ _ (by omega)) (fun j => e2 _ _), hT, k5.fr (fun j => e2 _ _), ⟨?_, ?_⟩, ?_, ⟨?_, ?_⟩, k9.fr (e _ _ (by omega)) (fun j => e _ _ (by omega)), fun j hj => ?_⟩
  · rw [e2]; exact k6.1
  · rw [e2]; exact k6.2
  · rw [e _ _ (by omega)]; exact k7
  · rw [e _ _ (by omega)]; exact k8.1
  · rw [e _ _ (by omega)]; exact k8.2
  · rw [e _ _ (by omega)]; exact k10 j hj
set_option maxRecDepth 20000 in
theorem x_hasRoom {σ : qSg} {t : zTp} (h : zXtp σ t) (ht : t.1 ≤ 900) : qFI 1 89 [qr 50] σ (qb (decide (t.1 + 20 ≤ 900))) := by
  refine qCI.of [some (qr 50)] ok_89 (Nat.le_of_ble_eq_true rfl) rfl ?_
  refine qV.go 30 [9999] ok_89 ?_
  simp only [qW_nop, qW_iconst, qW_bipush, qW_sipush, qW_aloadn, qW_iadd, qW_iflt, qW_icgt, qW_goto, qW_getf, qW_iret1, Nat.reduceAdd, Nat.reduceMul, Nat.reduceBEq, Nat.reduceEqDiff, Nat.reduceLT, Nat.reduceLeDiff, Nat.zero_le, nI_add, nI_mul, nI_cl, qin_eq, qofI, qlg_0, qlg_s, qls_i0, qls_r0, qls_l0, qls_1, qls_2, qkl_i, qkl_r, qkl_l, qkl_n, qIsI_i, qIsL_l, qIsR_r, qint_i, qil_i, qil_r, qil_l, qf4_0, qf4_1, qf4_2, qf4_3, qf2_0, qf2_1, qcs_n, qcs_i, qcs_r, qcs_l, qst_n, qst_c, qJ_0, qJ_st, qJ_go, qfl_I, qfl_Z, qfl_L, qfl_R, qrI_i, qrL_l, qrV_v, qRcv_0, qRcv_s, eq_self, true_and, and_true, true_or, or_true, false_and, and_false, false_or, or_false, ite_true, if_true, if_false, Bool.true_or, Bool.false_or, Bool.or_false, beq_self_eq_true, Bool.false_eq_true, bX7_hasRoom_0, bX7_hasRoom_24, bX7_hasRoom_25, kX7_hasRoom_0, kX7_hasRoom_24, kX7_hasRoom_25, qK_50, qR_50_0, qK_51, qR_50_13, qK_52]
  rw [h.1]
  simp (disch := omega) only [nI_leI, nI_ltI, nI_eq, nI_cl, qin_eq, nI_add, nI_mul, qb_z, qb_t, qb_f, nI_ne0', Nat.reduceAdd, Bool.false_eq_true, if_false, if_true, true_and, and_true, Nat.reduceEqDiff, not_true_eq_false, not_false_eq_true, false_implies, true_implies, ite_true, ite_false]
  refine ⟨fun h1 => absurd h1 (nI_pos (by omega)), fun _ => ⟨fun h2 => ?_, fun h2 => ?_⟩⟩
  · rw [decide_eq_false (by omega)]; rfl
  · rw [decide_eq_true (by omega)]; rfl
set_option maxRecDepth 20000 in
theorem x_addFour {σ : qSg} {t : zTp} (h : zXtp σ t) (ht : t.1 + 4 ≤ 900) (x : Int32) : qCV 1 90 [qr 50, qi x] σ (fun σ' => zXtp σ' (zfour t x) ∧ zF (fun a j => a = 51 ∨ (a = 50 ∧ j = 1)) σ σ') := by
  refine qCV.of [some (qr 50), some (qi x)] ok_90 (Nat.le_of_ble_eq_true rfl) rfl ?_
  have e3 : ∀ (σ1 : qSg) i y, (qwi σ1 51 i y).1 50 1 = σ1.1 50 1 := fun σ1 i y => by rw [qwi_1, if_neg (by omega)]
  have h1 := h.1
  refine qV.go 30 [9999] ok_90 ?_
  simp only [qW_nop, qW_iconst, qW_bipush, qW_sipush, qW_iloadn, qW_aloadn, qW_iadd, qW_ishr, qW_i2b, qW_dup, qW_iflt, qW_icle, qW_getf, qW_bast, qW_vret, qW_putf0, Nat.reduceAdd, Nat.reduceMul, Nat.reduceBEq, Nat.reduceEqDiff, Nat.reduceLT, Nat.reduceLeDiff, Nat.zero_le, nI_add, nI_mul, nI_cl, qin_eq, qofI, qlg_0, qlg_s, qls_i0, qls_r0, qls_l0, qls_1, qls_2, qkl_i, qkl_r, qkl_l, qkl_n, qIsI_i, qIsL_l, qIsR_r, qint_i, qil_i, qil_r, qil_l, qf4_0, qf4_1, qf4_2, qf4_3, qf2_0, qf2_1, qcs_n, qcs_i, qcs_r, qcs_l, qst_n, qst_c, qJ_0, qJ_st, qJ_go, qfl_I, qfl_Z, qfl_L, qfl_R, qrI_i, qrL_l, qrV_v, qRcv_0, qRcv_s, eq_self, true_and, and_true, true_or, or_true, false_and, and_false, false_or, or_false, ite_true, if_true, if_false, Bool.true_or, Bool.false_or, Bool.or_false, beq_self_eq_true, Bool.false_eq_true, bX7_addFour_0, bX7_addFour_19, bX7_addFour_20, kX7_addFour_0, kX7_addFour_19, kX7_addFour_20, qK_50, qR_50_0, qK_51, qR_50_13, qK_52]
  simp only [e3, h1]
  simp only [zlb_twice]
  simp (disch := omega) only [nI_leI, nI_ltI, nI_eq, nI_cl, qin_eq, nI_add, nI_mul, qb_z, qb_t, qb_f, nI_ne0', Nat.reduceAdd, Bool.false_eq_true, if_false, if_true, true_and, and_true, Nat.reduceEqDiff, not_true_eq_false, not_false_eq_true, false_implies, true_implies, ite_true, ite_false]
  refine ⟨fun hh => absurd hh (nI_pos (by omega)), fun _ => ⟨fun h2 => ?_, fun h2 => absurd ht h2⟩⟩
  refine ⟨⟨by rw [qwi_1, if_pos ⟨rfl, rfl⟩]; rfl, fun j hj => ?_⟩, ((((zF.wi (Or.inl rfl)).tr (zF.wi (Or.inl rfl))).tr (zF.wi (Or.inl rfl))).tr (zF.wi (Or.inl rfl))).tr (zF.wi (Or.inr ⟨rfl, rfl⟩))⟩
  have hj : j < t.1 + 4 := hj
  show _ = zby (if j = t.1 + 1 + 1 + 1 then zlb x else if j = t.1 + 1 + 1 then zlb (x >>> (nI 8 &&& 31)) else if j = t.1 + 1 then zlb (x >>> (nI 16 &&& 31)) else if j = t.1 then zlb (x >>> (nI 24 &&& 31)) else t.2 j)
  rw [qwi_1, if_neg (by omega), qwi_1]
  by_cases c3 : j = t.1 + 3
  · rw [if_pos ⟨rfl, c3⟩, if_pos (by omega)]
  rw [if_neg (by omega), if_neg (by omega), qwi_1]
  by_cases c2 : j = t.1 + 2
  · rw [if_pos ⟨rfl, c2⟩, if_pos (by omega)]
  rw [if_neg (by omega), if_neg (by omega), qwi_1]
  by_cases c1 : j = t.1 + 1
  · rw [if_pos ⟨rfl, c1⟩, if_pos (by omega)]
  rw [if_neg (by omega), if_neg (by omega), qwi_1]
  by_cases c0 : j = t.1
  · rw [if_pos ⟨rfl, c0⟩, if_pos (by omega)]
  rw [if_neg (by omega), if_neg (by omega)]
  exact h.2 j (by omega)
theorem zTpW_feed {t : zTp} (h : zTpW t) (a b c d e : Int32) (hl : t.1 + 20 ≤ 900) : zTpW (zfeed t a b c d e) := by
  have w1 := zfour_W h a (by omega)
  have w2 := zfour_W w1 b (by rw [zfour_1]; omega)
  have w3 := zfour_W w2 c (by rw [zfour_1, zfour_1]; omega)
  have w4 := zfour_W w3 d (by rw [zfour_1, zfour_1, zfour_1]; omega)
  exact zfour_W w4 e (by rw [zfour_1, zfour_1, zfour_1, zfour_1]; omega)
set_option maxRecDepth 20000 in
theorem X_feed {σ : qSg} {A : zA} (hA : zXA σ A) (hW : zAW A) (a b c d e : Int32) : qCI 2 152 [qr 0, qi a, qi b, qi c, qi d, qi e] σ (zXCall σ (yFeed A a b c d e)) := by
  have k4 := hA.2.2.2.1
  have w5 := hW.2.2.2.2.1
  have h900 := w5.1
  refine qCI.of [some (qr 0), some (qi a), some (qi b), some (qi c), some (qi d), some (qi e)] ok_152 (Nat.le_of_ble_eq_true rfl) rfl ?_
  refine qV.go 30 [9999] ok_152 ?_
  simp only [qW_nop, qW_iconstm, qW_iloadn, qW_iload, qW_aloadn, qW_ifne, qW_getf, qW_cv1_0, qW_cv2_2, qW_iret0, Nat.reduceAdd, Nat.reduceMul, Nat.reduceBEq, Nat.reduceEqDiff, Nat.reduceLT, Nat.reduceLeDiff, Nat.zero_le, nI_add, nI_mul, nI_cl, qin_eq, qofI, qlg_0, qlg_s, qls_i0, qls_r0, qls_l0, qls_1, qls_2, qkl_i, qkl_r, qkl_l, qkl_n, qIsI_i, qIsL_l, qIsR_r, qint_i, qil_i, qil_r, qil_l, qf4_0, qf4_1, qf4_2, qf4_3, qf2_0, qf2_1, qcs_n, qcs_i, qcs_r, qcs_l, qst_n, qst_c, qJ_0, qJ_st, qJ_go, qfl_I, qfl_Z, qfl_L, qfl_R, qrI_i, qrL_l, qrV_v, qRcv_0, qRcv_s, eq_self, true_and, and_true, true_or, or_true, false_and, and_false, false_or, or_false, ite_true, if_true, if_false, Bool.true_or, Bool.false_or, Bool.or_false, beq_self_eq_true, Bool.false_eq_true, bX11_feed_0, bX11_feed_12, kX11_feed_0, kX11_feed_12, qK_0, qR_0_0, qK_1, qR_0_1, qK_13, qR_0_2, qK_25, qR_0_3, qK_40, qR_0_4, qK_41, qR_0_5, qK_45, qR_0_6, qK_46, qR_0_7, qK_50, qR_0_8, qK_53, qR_0_9, qK_66, qR_0_10, qK_74, qR_0_11, qK_80, qR_0_12, qK_82, qR_0_14, qK_83, qR_0_15, qK_84, qK_50, qR_50_0, qK_51, qR_50_13, qK_52]
  refine qBI.fn (x_hasRoom k4 h900) (by decide) ?_
  simp (disch := omega) only [nI_leI, nI_ltI, nI_eq, nI_cl, qin_eq, nI_add, nI_mul, qb_z, qb_t, qb_f, nI_ne0', Nat.reduceAdd, Bool.false_eq_true, if_false, if_true, true_and, and_true, Nat.reduceEqDiff, not_true_eq_false, not_false_eq_true, false_implies, true_implies, ite_true, ite_false, Bool.not_eq_false, Bool.not_eq_true]
  simp only [decide_eq_true_eq, decide_eq_false_iff_not]
  unfold yFeed
  refine And.symm ⟨fun g => ?_, fun g => ?_⟩
  · rw [if_pos (by omega)]
    exact ⟨rfl, hA, zCls.rf, hW⟩
  · rw [if_neg (by omega)]
    refine qBV.of (x_addFour k4 (by omega) a) (by decide) (fun σ1 g1 => ?_)
    refine qBV.of (x_addFour g1.1 (by rw [zfour_1]; omega) b) (by decide) (fun σ2 g2 => ?_)
    refine qBV.of (x_addFour g2.1 (by rw [zfour_1, zfour_1]; omega) c) (by decide) (fun σ3 g3 => ?_)
    refine qBV.of (x_addFour g3.1 (by rw [zfour_1, zfour_1, zfour_1]; omega) d) (by decide) (fun σ4 g4 => ?_)
    refine qBV.of (x_addFour g4.1 (by rw [zfour_1, zfour_1, zfour_1, zfour_1]; omega) e) (by decide) (fun σ5 g5 => ?_)
    have f := (((g1.2.tr g2.2).tr g3.2).tr g4.2).tr g5.2
    exact ⟨g5.1.1, hA.tp hW f g5.1, zCls.f f (fun a j h => by omega), ⟨hW.1, hW.2.1, hW.2.2.1, hW.2.2.2.1, zTpW_feed w5 a b c d e (by omega), hW.2.2.2.2.2⟩⟩
set_option maxRecDepth 20000 in
theorem X_copyYields {σ : qSg} {A : zA} (hA : zXA σ A) (hW : zAW A) (t : Int32) : qCI 5 202 [qr 0, qi t] σ (zXCall σ (yCopyYields A t)) := by
  have hT := hA.2.2.1
  have wT := hW.2.2.2.1
  have hX := hA.x
  have hw := hW.w
  have wb := hw.1
  refine qCI.of [some (qr 0), some (qi t), none] ok_202 (Nat.le_of_ble_eq_true rfl) rfl ?_
  refine qV.go 30 [61] ok_202 ?_
  simp only [qW_nop, qW_iconst, qW_iloadn, qW_aloadn, qW_istoren, qW_iinc, qW_i2l, qW_ifne, qW_icge, qW_goto, qW_getf, qW_iald, qW_cv2_0, qW_cv4_0, qW_cv4_2, qW_iret0, Nat.reduceAdd, Nat.reduceMul, Nat.reduceBEq, Nat.reduceEqDiff, Nat.reduceLT, Nat.reduceLeDiff, Nat.zero_le, nI_add, nI_mul, nI_cl, qin_eq, qofI, qlg_0, qlg_s, qls_i0, qls_r0, qls_l0, qls_1, qls_2, qkl_i, qkl_r, qkl_l, qkl_n, qIsI_i, qIsL_l, qIsR_r, qint_i, qil_i, qil_r, qil_l, qf4_0, qf4_1, qf4_2, qf4_3, qf2_0, qf2_1, qcs_n, qcs_i, qcs_r, qcs_l, qst_n, qst_c, qJ_0, qJ_st, qJ_go, qfl_I, qfl_Z, qfl_L, qfl_R, qrI_i, qrL_l, qrV_v, qRcv_0, qRcv_s, eq_self, true_and, and_true, true_or, or_true, false_and, and_false, false_or, or_false, ite_true, if_true, if_false, Bool.true_or, Bool.false_or, Bool.or_false, beq_self_eq_true, Bool.false_eq_true, bX11_copyYields_0, bX11_copyYields_17, bX11_copyYields_34, bX11_copyYields_59, bX11_copyYields_61, bX11_copyYields_97, kX11_copyYields_0, kX11_copyYields_17, kX11_copyYields_34, kX11_copyYields_59, kX11_copyYields_61, kX11_copyYields_97, qK_0, qR_0_0, qK_1, qR_0_1, qK_13, qR_0_2, qK_25, qR_0_3, qK_40, qR_0_4, qK_41, qR_0_5, qK_45, qR_0_6, qK_46, qR_0_7, qK_50, qR_0_8, qK_53, qR_0_9, qK_66, qR_0_10, qK_74, qR_0_11, qK_80, qR_0_12, qK_82, qR_0_14, qK_83, qR_0_15, qK_84, qK_46, qR_46_0, qK_47, qR_46_1, qK_48, qR_46_2, qK_49, qK_1, qR_1_6, qK_2, qR_1_7, qK_3, qR_1_8, qK_4, qR_1_9, qK_5, qR_1_10, qK_6, qR_1_11, qK_7, qR_1_12, qK_8, qR_1_13, qK_9, qR_1_14, qK_10, qR_1_15, qK_11, qR_1_16, qK_12]
  refine qBI.fn (x_known σ t) (by decide) ?_
  simp (disch := omega) only [nI_leI, nI_ltI, nI_eq, nI_cl, qin_eq, nI_add, nI_mul, qb_z, qb_t, qb_f, nI_ne0', Nat.reduceAdd, Bool.false_eq_true, if_false, if_true, true_and, and_true, Nat.reduceEqDiff, not_true_eq_false, not_false_eq_true, false_implies, true_implies, ite_true, ite_false, Bool.not_eq_false, Bool.not_eq_true]
  refine And.symm ⟨fun h2 => ?_, fun h2 => ?_⟩
  · exact g_no hA hW zCls.rf (by decide) (by unfold yCopyYields; rw [if_pos h2]; rfl)
  obtain ⟨t', ht, rfl⟩ := zrg_nI h2
  have eY : yCopyYields A (nI t') = match (aT A).2.1 t' with
    | none => yNo A 2
    | some n => if n < aC A 0 0 then yNo A 3 else yOk (sT A (zTy (aC A) (aT A) t' (aC A 0 0))) (nI (aC A 0 0)) := by
    unfold yCopyYields
    rw [if_neg (by rw [h2]; decide), nI_tn (by omega)]
    cases (aT A).2.1 t' <;> rfl
  rw [eY]
  refine qBI.fn (x_laid hT wT (nI t')) (by decide) ?_
  rw [zT_l ht]
  have e4 : σ.1 1 4 = nI (aC A 0 0) := hX.1.b
  rw [e4]
  cases ex : (aT A).2.1 t' with
  | none =>
    simp only [Option.isSome]
    simp (disch := omega) only [nI_leI, nI_ltI, nI_eq, nI_cl, qin_eq, nI_add, nI_mul, qb_z, qb_t, qb_f, nI_ne0', Nat.reduceAdd, Bool.false_eq_true, if_false, if_true, true_and, and_true, Nat.reduceEqDiff, not_true_eq_false, not_false_eq_true, false_implies, true_implies, ite_true, ite_false, Bool.not_eq_false, Bool.not_eq_true]
    exact g_no hA hW zCls.rf (by decide) rfl
  | some n =>
    have n60 := (wT t' ht).2 n ex
    simp only [Option.isSome]
    simp (disch := omega) only [nI_leI, nI_ltI, nI_eq, nI_cl, qin_eq, nI_add, nI_mul, qb_z, qb_t, qb_f, nI_ne0', Nat.reduceAdd, Bool.false_eq_true, if_false, if_true, true_and, and_true, Nat.reduceEqDiff, not_true_eq_false, not_false_eq_true, false_implies, true_implies, ite_true, ite_false, Bool.not_eq_false, Bool.not_eq_true]
    refine qBI.fn (x_holds hT wT (nI t') (nI 0) (nI (aC A 0 0))) (by decide) ?_
    have ez : zhold (aT A) (nI t') (nI 0) (nI (aC A 0 0)) = decide (aC A 0 0 ≤ n) := by
      unfold zhold zsz
      rw [zT_l ht, ex, nI_t (by omega), nI_t (by omega), nI_tn (by omega), ex]
      have : (((0 : Nat) : Int) + ((aC A 0 0 : Nat) : Int) ≤ ((some n).getD 0 : Nat)) ↔ aC A 0 0 ≤ n := by
        show (((0 : Nat) : Int) + ((aC A 0 0 : Nat) : Int) ≤ ((n : Nat) : Int)) ↔ aC A 0 0 ≤ n
        omega
      rw [decide_eq_decide.mpr this, decide_eq_true (by omega), decide_eq_true (by omega)]
      rfl
    rw [ez]
    simp (disch := omega) only [nI_leI, nI_ltI, nI_eq, nI_cl, qin_eq, nI_add, nI_mul, qb_z, qb_t, qb_f, nI_ne0', Nat.reduceAdd, Bool.false_eq_true, if_false, if_true, true_and, and_true, Nat.reduceEqDiff, not_true_eq_false, not_false_eq_true, false_implies, true_implies, ite_true, ite_false, Bool.not_eq_false, Bool.not_eq_true]
    simp only [decide_eq_true_eq, decide_eq_false_iff_not]
    refine And.symm ⟨fun h => ?_, fun h => ?_⟩
    · rw [if_pos (by omega)]
      exact g_no hA hW zCls.rf (by decide) rfl
    · rw [if_neg (by omega)]
      refine qdown (n := aC A 0 0) (P := fun b => ∀ σ1, zXT σ1 (zTy (aC A) (aT A) t' b) → zG (fun _ _ => False) (fun a _ => a = 49) σ σ1 → qV 202 5 (.inl (zXCall σ (yOk (sT A (zTy (aC A) (aT A) t' (aC A 0 0))) (nI (aC A 0 0))))) 61 [some (qr 0), some (qi (nI t')), some (qi (nI b))] [] σ1) (fun b hb ih => ?_) 0 (Nat.zero_le _) σ hT zG.rf
      intro σ1 T1 f1
      have wy := zTy_W wT (aC A) t' b
      have es := zTy_s (aC A) (aT A) t' b
      have S := hA.t hW (f1.wk (fun a j h => False.elim h) (fun a j h => h)) T1
      have e5 : σ1.1 1 4 = nI (aC A 0 0) := (zXA.x S).1.b
      refine qV.go 30 [61] ok_202 ?_
      simp only [qW_nop, qW_iconst, qW_iloadn, qW_aloadn, qW_istoren, qW_iinc, qW_i2l, qW_ifne, qW_icge, qW_goto, qW_getf, qW_iald, qW_cv2_0, qW_cv4_0, qW_cv4_2, qW_iret0, Nat.reduceAdd, Nat.reduceMul, Nat.reduceBEq, Nat.reduceEqDiff, Nat.reduceLT, Nat.reduceLeDiff, Nat.zero_le, nI_add, nI_mul, nI_cl, qin_eq, qofI, qlg_0, qlg_s, qls_i0, qls_r0, qls_l0, qls_1, qls_2, qkl_i, qkl_r, qkl_l, qkl_n, qIsI_i, qIsL_l, qIsR_r, qint_i, qil_i, qil_r, qil_l, qf4_0, qf4_1, qf4_2, qf4_3, qf2_0, qf2_1, qcs_n, qcs_i, qcs_r, qcs_l, qst_n, qst_c, qJ_0, qJ_st, qJ_go, qfl_I, qfl_Z, qfl_L, qfl_R, qrI_i, qrL_l, qrV_v, qRcv_0, qRcv_s, eq_self, true_and, and_true, true_or, or_true, false_and, and_false, false_or, or_false, ite_true, if_true, if_false, Bool.true_or, Bool.false_or, Bool.or_false, beq_self_eq_true, Bool.false_eq_true, bX11_copyYields_0, bX11_copyYields_17, bX11_copyYields_34, bX11_copyYields_59, bX11_copyYields_61, bX11_copyYields_97, kX11_copyYields_0, kX11_copyYields_17, kX11_copyYields_34, kX11_copyYields_59, kX11_copyYields_61, kX11_copyYields_97, qK_0, qR_0_0, qK_1, qR_0_1, qK_13, qR_0_2, qK_25, qR_0_3, qK_40, qR_0_4, qK_41, qR_0_5, qK_45, qR_0_6, qK_46, qR_0_7, qK_50, qR_0_8, qK_53, qR_0_9, qK_66, qR_0_10, qK_74, qR_0_11, qK_80, qR_0_12, qK_82, qR_0_14, qK_83, qR_0_15, qK_84, qK_46, qR_46_0, qK_47, qR_46_1, qK_48, qR_46_2, qK_49, qK_1, qR_1_6, qK_2, qR_1_7, qK_3, qR_1_8, qK_4, qR_1_9, qK_5, qR_1_10, qK_6, qR_1_11, qK_7, qR_1_12, qK_8, qR_1_13, qK_9, qR_1_14, qK_10, qR_1_15, qK_11, qR_1_16, qK_12]
      rw [e5]
      simp (disch := omega) only [nI_leI, nI_ltI, nI_eq, nI_cl, qin_eq, nI_add, nI_mul, qb_z, qb_t, qb_f, nI_ne0', Nat.reduceAdd, Bool.false_eq_true, if_false, if_true, true_and, and_true, Nat.reduceEqDiff, not_true_eq_false, not_false_eq_true, false_implies, true_implies, ite_true, ite_false]
      refine And.symm ⟨fun g => ?_, fun g => ?_⟩
      · have hb1 : b < aC A 0 0 := by omega
        have e6 : σ1.1 7 b = nI (aC A 5 b) := (zXA.x S).1.yi hb1
        simp (disch := omega) only [nI_leI, nI_ltI, nI_eq, nI_cl, qin_eq, nI_add, nI_mul, qb_z, qb_t, qb_f, nI_ne0', Nat.reduceAdd, Bool.false_eq_true, if_false, if_true, true_and, and_true, Nat.reduceEqDiff, not_true_eq_false, not_false_eq_true, false_implies, true_implies, ite_true, ite_false]
        rw [e6]
        refine qBV.of (x_put T1 wy (t := t') (p := b) (n := n) ht (by rw [es.2]; exact ex) (by omega) (nI (aC A 5 b)).toInt64) (by decide) (fun σ2 g2 => ?_)
        exact ih hb1 _ g2.1 (f1.tr g2.2)
      · have : b = aC A 0 0 := by omega
        subst this
        exact g_ok S (hW.t wy) (zCls.g f1 (fun a j h => False.elim h) (fun a j h => by omega)) (by decide) rfl
