/-! the reference's calls: pouring, yields copied -/
theorem zTW_put {T : zT} (h : zTW T) (t j : Nat) (v : Int64) : zTW (zTput T t j v) := fun a ha => h a ha
theorem zpw_lt (T : zT) (f p t a m : Int32) : zpw T f p t a m < 10 := by
  unfold zpw
  split
  · omega
  · split
    · split
      · omega
      · split <;> omega
    · omega
theorem zoI_n (x : Option Nat) (h : ∀ n, x = some n → n ≤ 60) : (zoI x = iI (-1)) = (x = none) := by
  cases x with
  | none => exact eq_true rfl ▸ (by simp [zoI])
  | some n =>
    have := h n rfl
    have e : ¬ nI n = iI (-1) := by
      rw [iI_nat, qeq, iI_toInt (by omega) (by omega)]
      intro hh
      have : (iI (-1)).toInt = -1 := rfl
      omega
    simp only [zoI, e]
    simp
set_option maxRecDepth 20000 in
theorem M_pour {σ : qSg} {A : zA} (hA : zMA σ A) (hW : zAW A) (f p t a m : Int32) : qCI 2 224 [qr 139, qi f, qi p, qi t, qi a, qi m] σ (zCall σ (yPour A f p t a m)) := by
  have hT := hA.2.2.2.1
  have wT : zTW (aT A) := hW.2.2.2.1
  refine qCI.of [some (qr 139), some (qi f), some (qi p), some (qi t), some (qi a), some (qi m), none, none] ok_224 (Nat.le_of_ble_eq_true rfl) rfl ?_
  refine qV.go 30 [28, 34] ok_224 ?_
  simp only [qW_nop, qW_iconst, qW_iconstm, qW_bipush, qW_iloadn, qW_iload, qW_aloadn, qW_istore, qW_iinc, qW_iadd, qW_isub, qW_imul, qW_ifeq, qW_iceq, qW_icne, qW_iflt, qW_ifge, qW_icge, qW_icgt, qW_icle, qW_goto, qW_getf, qW_iald, qW_lald, qW_last, qW_cs1_0, qW_cv2_0, qW_iret1, Nat.reduceAdd, Nat.reduceMul, Nat.reduceBEq, Nat.reduceEqDiff, Nat.reduceLT, Nat.reduceLeDiff, Nat.zero_le, nI_add, nI_mul, nI_cl, qin_eq, qofI, qlg_0, qlg_s, qls_i0, qls_r0, qls_l0, qls_1, qls_2, qkl_i, qkl_r, qkl_l, qkl_n, qIsI_i, qIsL_l, qIsR_r, qint_i, qil_i, qil_r, qil_l, qf4_0, qf4_1, qf4_2, qf4_3, qf2_0, qf2_1, qcs_n, qcs_i, qcs_r, qcs_l, qst_n, qst_c, qJ_0, qJ_st, qJ_go, qfl_I, qfl_Z, qfl_L, qfl_R, qrI_i, qrL_l, qrV_v, qRcv_0, qRcv_s, eq_self, true_and, and_true, true_or, or_true, false_and, and_false, false_or, or_false, ite_true, if_true, if_false, Bool.true_or, Bool.false_or, Bool.or_false, beq_self_eq_true, Bool.false_eq_true, bX12_pour_0, bX12_pour_28, bX12_pour_34, bX12_pour_54, bX12_pour_60, bX12_pour_82, bX12_pour_109, bX12_pour_115, bX12_pour_118, bX12_pour_141, bX12_pour_143, bX12_pour_180, kX12_pour_0, kX12_pour_28, kX12_pour_34, kX12_pour_54, kX12_pour_60, kX12_pour_82, kX12_pour_109, kX12_pour_115, kX12_pour_118, kX12_pour_141, kX12_pour_143, kX12_pour_180, qK_139, qR_139_0, qK_140, qR_139_1, qK_141, qR_139_5, qK_142, qR_139_6, qK_143, qR_139_7, qK_144, qR_139_8, qK_145, qR_139_9, qK_146, qR_139_21, qK_147, qR_139_25, qK_148, qR_139_30, qK_149, qR_139_31, qK_150, qR_139_33, qK_151, qR_139_34, qK_152, qR_139_35, qK_153, qR_139_36, qK_154, qR_139_39, qK_155, qR_139_40, qK_156, qR_139_41, qK_157]
  refine qBI.fn (m_isTray σ f) (by decide) ?_
  have bad : ∀ k, k < 10 → k ≠ 0 → zpw (aT A) f p t a m = k → qBI 2 213 [qr 139, qi (nI k)] σ (fun r σ' => (r = nI 0 ∨ r = nI 1) ∧ zCall σ (yPour A f p t a m) r σ') := by
    intro k hk k0 e
    refine e_is hA hW zRef.rf (by omega) (by decide) ?_
    unfold yPour
    rw [e, if_neg k0, decide_eq_false k0]
    rfl
  have no : (zrg f 4 && zrg t 4 && decide (0 ≤ p.toInt) && decide (0 ≤ a.toInt) && decide (0 ≤ m.toInt)) = false → qV 224 2 (.inl (zCall σ (yPour A f p t a m))) 28 [some (qr 139), some (qi f), some (qi p), some (qi t), some (qi a), some (qi m), none, none] [] σ := by
    intro hz
    refine qV.go 30 [9999] ok_224 ?_
    simp only [qW_nop, qW_iconst, qW_iconstm, qW_bipush, qW_iloadn, qW_iload, qW_aloadn, qW_istore, qW_iinc, qW_iadd, qW_isub, qW_imul, qW_ifeq, qW_iceq, qW_icne, qW_iflt, qW_ifge, qW_icge, qW_icgt, qW_icle, qW_goto, qW_getf, qW_iald, qW_lald, qW_last, qW_cs1_0, qW_cv2_0, qW_iret1, Nat.reduceAdd, Nat.reduceMul, Nat.reduceBEq, Nat.reduceEqDiff, Nat.reduceLT, Nat.reduceLeDiff, Nat.zero_le, nI_add, nI_mul, nI_cl, qin_eq, qofI, qlg_0, qlg_s, qls_i0, qls_r0, qls_l0, qls_1, qls_2, qkl_i, qkl_r, qkl_l, qkl_n, qIsI_i, qIsL_l, qIsR_r, qint_i, qil_i, qil_r, qil_l, qf4_0, qf4_1, qf4_2, qf4_3, qf2_0, qf2_1, qcs_n, qcs_i, qcs_r, qcs_l, qst_n, qst_c, qJ_0, qJ_st, qJ_go, qfl_I, qfl_Z, qfl_L, qfl_R, qrI_i, qrL_l, qrV_v, qRcv_0, qRcv_s, eq_self, true_and, and_true, true_or, or_true, false_and, and_false, false_or, or_false, ite_true, if_true, if_false, Bool.true_or, Bool.false_or, Bool.or_false, beq_self_eq_true, Bool.false_eq_true, bX12_pour_0, bX12_pour_28, bX12_pour_34, bX12_pour_54, bX12_pour_60, bX12_pour_82, bX12_pour_109, bX12_pour_115, bX12_pour_118, bX12_pour_141, bX12_pour_143, bX12_pour_180, kX12_pour_0, kX12_pour_28, kX12_pour_34, kX12_pour_54, kX12_pour_60, kX12_pour_82, kX12_pour_109, kX12_pour_115, kX12_pour_118, kX12_pour_141, kX12_pour_143, kX12_pour_180, qK_139, qR_139_0, qK_140, qR_139_1, qK_141, qR_139_5, qK_142, qR_139_6, qK_143, qR_139_7, qK_144, qR_139_8, qK_145, qR_139_9, qK_146, qR_139_21, qK_147, qR_139_25, qK_148, qR_139_30, qK_149, qR_139_31, qK_150, qR_139_33, qK_151, qR_139_34, qK_152, qR_139_35, qK_153, qR_139_36, qK_154, qR_139_39, qK_155, qR_139_40, qK_156, qR_139_41, qK_157]
    exact bad 1 (by decide) (by decide) (by unfold zpw; rw [if_pos hz])
  simp (disch := omega) only [nI_leI, nI_ltI, nI_eq, nI_cl, qin_eq, nI_add, nI_mul, qb_z, qb_t, qb_f, nI_ne0', Nat.reduceAdd, Bool.false_eq_true, if_false, if_true, true_and, and_true, Nat.reduceEqDiff, not_true_eq_false, not_false_eq_true, false_implies, true_implies, ite_true, ite_false]
  refine ⟨fun h1 => no (by rw [h1]; rfl), fun h1 => ?_⟩
  have h1 : zrg f 4 = true := by simpa using h1
  refine qBI.fn (m_isTray σ t) (by decide) ?_
  simp (disch := omega) only [nI_leI, nI_ltI, nI_eq, nI_cl, qin_eq, nI_add, nI_mul, qb_z, qb_t, qb_f, nI_ne0', Nat.reduceAdd, Bool.false_eq_true, if_false, if_true, true_and, and_true, Nat.reduceEqDiff, not_true_eq_false, not_false_eq_true, false_implies, true_implies, ite_true, ite_false]
  refine ⟨fun h2 => no (by rw [h2, Bool.and_false]; rfl), fun h2 => ?_⟩
  have h2 : zrg t 4 = true := by simpa using h2
  simp only [z0i, qlt, qle]
  refine ⟨fun h3 => no (by rw [decide_eq_false (p := 0 ≤ p.toInt) (by omega), Bool.and_false]; rfl), fun h3 => ⟨fun h4 => no (by rw [decide_eq_false (p := 0 ≤ a.toInt) (by omega), Bool.and_false]; rfl), fun h4 => ⟨fun h5 => ?_, fun h5 => no (by rw [decide_eq_false (p := 0 ≤ m.toInt) (by omega), Bool.and_false])⟩⟩⟩
  have hz : (zrg f 4 && zrg t 4 && decide (0 ≤ p.toInt) && decide (0 ≤ a.toInt) && decide (0 ≤ m.toInt)) = true := by
    rw [h1, h2, decide_eq_true (show 0 ≤ p.toInt by omega), decide_eq_true (show 0 ≤ a.toInt by omega), decide_eq_true h5]; rfl
  have ex : ∀ x : Int32, 0 ≤ x.toInt → ∃ k, k < 2147483648 ∧ x = nI k := fun x hx => by
    have := qx_range x
    refine ⟨x.toInt.toNat, by omega, ?_⟩
    rw [qeq, nI_t (by omega)]
    omega
  obtain ⟨f', hf, rfl⟩ := zrg_nI h1
  obtain ⟨t', ht, rfl⟩ := zrg_nI h2
  obtain ⟨p', hp, rfl⟩ := ex p (by omega)
  obtain ⟨a', ha, rfl⟩ := ex a (by omega)
  obtain ⟨m', hm, rfl⟩ := ex m h5
  clear no ex h3 h4 h5
  have eZ : zpw (aT A) (nI f') (nI p') (nI t') (nI a') (nI m') = match (aT A).2.1 f', (aT A).2.1 t' with
    | some x, some y => if (aT A).1 f' ≠ (aT A).1 t' then 8 else if (p' : Int) + m' ≤ x ∧ (a' : Int) + m' ≤ y then 0 else 3
    | _, _ => 2 := by
    unfold zpw
    rw [if_neg (by rw [hz]; decide), nI_tn (by omega), nI_tn (by omega), nI_t hp, nI_t ha, nI_t hm]
    cases (aT A).2.1 f' <;> cases (aT A).2.1 t' <;> rfl
  obtain ⟨f1, f2, f3⟩ := hT f' hf
  obtain ⟨t1, t2, t3⟩ := hT t' ht
  obtain ⟨wf1, wf2⟩ := wT f' hf
  obtain ⟨wt1, wt2⟩ := wT t' ht
  refine qV.go 30 [54, 60] ok_224 ?_
  simp only [qW_nop, qW_iconst, qW_iconstm, qW_bipush, qW_iloadn, qW_iload, qW_aloadn, qW_istore, qW_iinc, qW_iadd, qW_isub, qW_imul, qW_ifeq, qW_iceq, qW_icne, qW_iflt, qW_ifge, qW_icge, qW_icgt, qW_icle, qW_goto, qW_getf, qW_iald, qW_lald, qW_last, qW_cs1_0, qW_cv2_0, qW_iret1, Nat.reduceAdd, Nat.reduceMul, Nat.reduceBEq, Nat.reduceEqDiff, Nat.reduceLT, Nat.reduceLeDiff, Nat.zero_le, nI_add, nI_mul, nI_cl, qin_eq, qofI, qlg_0, qlg_s, qls_i0, qls_r0, qls_l0, qls_1, qls_2, qkl_i, qkl_r, qkl_l, qkl_n, qIsI_i, qIsL_l, qIsR_r, qint_i, qil_i, qil_r, qil_l, qf4_0, qf4_1, qf4_2, qf4_3, qf2_0, qf2_1, qcs_n, qcs_i, qcs_r, qcs_l, qst_n, qst_c, qJ_0, qJ_st, qJ_go, qfl_I, qfl_Z, qfl_L, qfl_R, qrI_i, qrL_l, qrV_v, qRcv_0, qRcv_s, eq_self, true_and, and_true, true_or, or_true, false_and, and_false, false_or, or_false, ite_true, if_true, if_false, Bool.true_or, Bool.false_or, Bool.or_false, beq_self_eq_true, Bool.false_eq_true, bX12_pour_0, bX12_pour_28, bX12_pour_34, bX12_pour_54, bX12_pour_60, bX12_pour_82, bX12_pour_109, bX12_pour_115, bX12_pour_118, bX12_pour_141, bX12_pour_143, bX12_pour_180, kX12_pour_0, kX12_pour_28, kX12_pour_34, kX12_pour_54, kX12_pour_60, kX12_pour_82, kX12_pour_109, kX12_pour_115, kX12_pour_118, kX12_pour_141, kX12_pour_143, kX12_pour_180, qK_139, qR_139_0, qK_140, qR_139_1, qK_141, qR_139_5, qK_142, qR_139_6, qK_143, qR_139_7, qK_144, qR_139_8, qK_145, qR_139_9, qK_146, qR_139_21, qK_147, qR_139_25, qK_148, qR_139_30, qK_149, qR_139_31, qK_150, qR_139_33, qK_151, qR_139_34, qK_152, qR_139_35, qK_153, qR_139_36, qK_154, qR_139_39, qK_155, qR_139_40, qK_156, qR_139_41, qK_157]
  simp (disch := omega) only [nI_leI, nI_ltI, nI_eq, nI_cl, qin_eq, nI_add, nI_mul, qb_z, qb_t, qb_f, nI_ne0', Nat.reduceAdd, Bool.false_eq_true, if_false, if_true, true_and, and_true, Nat.reduceEqDiff, not_true_eq_false, not_false_eq_true, false_implies, true_implies, ite_true, ite_false]
  have no2 : zpw (aT A) (nI f') (nI p') (nI t') (nI a') (nI m') = 2 → qV 224 2 (.inl (zCall σ (yPour A (nI f') (nI p') (nI t') (nI a') (nI m')))) 54 [some (qr 139), some (qi (nI f')), some (qi (nI p')), some (qi (nI t')), some (qi (nI a')), some (qi (nI m')), none, none] [] σ := by
    intro h
    refine qV.go 30 [9999] ok_224 ?_
    simp only [qW_nop, qW_iconst, qW_iconstm, qW_bipush, qW_iloadn, qW_iload, qW_aloadn, qW_istore, qW_iinc, qW_iadd, qW_isub, qW_imul, qW_ifeq, qW_iceq, qW_icne, qW_iflt, qW_ifge, qW_icge, qW_icgt, qW_icle, qW_goto, qW_getf, qW_iald, qW_lald, qW_last, qW_cs1_0, qW_cv2_0, qW_iret1, Nat.reduceAdd, Nat.reduceMul, Nat.reduceBEq, Nat.reduceEqDiff, Nat.reduceLT, Nat.reduceLeDiff, Nat.zero_le, nI_add, nI_mul, nI_cl, qin_eq, qofI, qlg_0, qlg_s, qls_i0, qls_r0, qls_l0, qls_1, qls_2, qkl_i, qkl_r, qkl_l, qkl_n, qIsI_i, qIsL_l, qIsR_r, qint_i, qil_i, qil_r, qil_l, qf4_0, qf4_1, qf4_2, qf4_3, qf2_0, qf2_1, qcs_n, qcs_i, qcs_r, qcs_l, qst_n, qst_c, qJ_0, qJ_st, qJ_go, qfl_I, qfl_Z, qfl_L, qfl_R, qrI_i, qrL_l, qrV_v, qRcv_0, qRcv_s, eq_self, true_and, and_true, true_or, or_true, false_and, and_false, false_or, or_false, ite_true, if_true, if_false, Bool.true_or, Bool.false_or, Bool.or_false, beq_self_eq_true, Bool.false_eq_true, bX12_pour_0, bX12_pour_28, bX12_pour_34, bX12_pour_54, bX12_pour_60, bX12_pour_82, bX12_pour_109, bX12_pour_115, bX12_pour_118, bX12_pour_141, bX12_pour_143, bX12_pour_180, kX12_pour_0, kX12_pour_28, kX12_pour_34, kX12_pour_54, kX12_pour_60, kX12_pour_82, kX12_pour_109, kX12_pour_115, kX12_pour_118, kX12_pour_141, kX12_pour_143, kX12_pour_180, qK_139, qR_139_0, qK_140, qR_139_1, qK_141, qR_139_5, qK_142, qR_139_6, qK_143, qR_139_7, qK_144, qR_139_8, qK_145, qR_139_9, qK_146, qR_139_21, qK_147, qR_139_25, qK_148, qR_139_30, qK_149, qR_139_31, qK_150, qR_139_33, qK_151, qR_139_34, qK_152, qR_139_35, qK_153, qR_139_36, qK_154, qR_139_39, qK_155, qR_139_40, qK_156, qR_139_41, qK_157]
    exact bad 2 (by decide) (by decide) h
  rw [f2, t2, zoI_n _ wf2, zoI_n _ wt2]
  refine ⟨fun h => no2 (by rw [eZ, h]), fun hx => ⟨fun hy => ?_, fun h => no2 ?_⟩⟩
  rotate_left 1
  · have h : (aT A).2.1 t' = none := h
    rw [eZ, h]
    cases (aT A).2.1 f' <;> rfl
  obtain ⟨x, ex⟩ : ∃ x, (aT A).2.1 f' = some x := by
    cases e : (aT A).2.1 f' with
    | none => exact absurd e hx
    | some x => exact ⟨x, rfl⟩
  obtain ⟨y, ey⟩ : ∃ y, (aT A).2.1 t' = some y := by
    cases e : (aT A).2.1 t' with
    | none => exact absurd e hy
    | some y => exact ⟨y, rfl⟩
  have x60 := wf2 x ex
  have y60 := wt2 y ey
  rw [ex] at f2
  rw [ey] at t2
  have f2 : σ.1 143 f' = nI x := f2
  have t2 : σ.1 143 t' = nI y := t2
  have eZ : zpw (aT A) (nI f') (nI p') (nI t') (nI a') (nI m') = if (aT A).1 f' ≠ (aT A).1 t' then 8 else if (p' : Int) + m' ≤ x ∧ (a' : Int) + m' ≤ y then 0 else 3 := by rw [eZ, ex, ey]
  clear no2
  refine qV.go 30 [82] ok_224 ?_
  simp only [qW_nop, qW_iconst, qW_iconstm, qW_bipush, qW_iloadn, qW_iload, qW_aloadn, qW_istore, qW_iinc, qW_iadd, qW_isub, qW_imul, qW_ifeq, qW_iceq, qW_icne, qW_iflt, qW_ifge, qW_icge, qW_icgt, qW_icle, qW_goto, qW_getf, qW_iald, qW_lald, qW_last, qW_cs1_0, qW_cv2_0, qW_iret1, Nat.reduceAdd, Nat.reduceMul, Nat.reduceBEq, Nat.reduceEqDiff, Nat.reduceLT, Nat.reduceLeDiff, Nat.zero_le, nI_add, nI_mul, nI_cl, qin_eq, qofI, qlg_0, qlg_s, qls_i0, qls_r0, qls_l0, qls_1, qls_2, qkl_i, qkl_r, qkl_l, qkl_n, qIsI_i, qIsL_l, qIsR_r, qint_i, qil_i, qil_r, qil_l, qf4_0, qf4_1, qf4_2, qf4_3, qf2_0, qf2_1, qcs_n, qcs_i, qcs_r, qcs_l, qst_n, qst_c, qJ_0, qJ_st, qJ_go, qfl_I, qfl_Z, qfl_L, qfl_R, qrI_i, qrL_l, qrV_v, qRcv_0, qRcv_s, eq_self, true_and, and_true, true_or, or_true, false_and, and_false, false_or, or_false, ite_true, if_true, if_false, Bool.true_or, Bool.false_or, Bool.or_false, beq_self_eq_true, Bool.false_eq_true, bX12_pour_0, bX12_pour_28, bX12_pour_34, bX12_pour_54, bX12_pour_60, bX12_pour_82, bX12_pour_109, bX12_pour_115, bX12_pour_118, bX12_pour_141, bX12_pour_143, bX12_pour_180, kX12_pour_0, kX12_pour_28, kX12_pour_34, kX12_pour_54, kX12_pour_60, kX12_pour_82, kX12_pour_109, kX12_pour_115, kX12_pour_118, kX12_pour_141, kX12_pour_143, kX12_pour_180, qK_139, qR_139_0, qK_140, qR_139_1, qK_141, qR_139_5, qK_142, qR_139_6, qK_143, qR_139_7, qK_144, qR_139_8, qK_145, qR_139_9, qK_146, qR_139_21, qK_147, qR_139_25, qK_148, qR_139_30, qK_149, qR_139_31, qK_150, qR_139_33, qK_151, qR_139_34, qK_152, qR_139_35, qK_153, qR_139_36, qK_154, qR_139_39, qK_155, qR_139_40, qK_156, qR_139_41, qK_157]
  simp (disch := omega) only [nI_leI, nI_ltI, nI_eq, nI_cl, qin_eq, nI_add, nI_mul, qb_z, qb_t, qb_f, nI_ne0', Nat.reduceAdd, Bool.false_eq_true, if_false, if_true, true_and, and_true, Nat.reduceEqDiff, not_true_eq_false, not_false_eq_true, false_implies, true_implies, ite_true, ite_false]
  have wf3 : (aT A).1 f' < 2147483648 := by omega
  have wt3 : (aT A).1 t' < 2147483648 := by omega
  rw [f1, t1, nI_eq wf3 wt3]
  refine ⟨fun hs => ?_, fun hs => bad 8 (by decide) (by decide) (by rw [eZ, if_pos hs])⟩
  have eZ : zpw (aT A) (nI f') (nI p') (nI t') (nI a') (nI m') = if (p' : Int) + m' ≤ x ∧ (a' : Int) + m' ≤ y then 0 else 3 := by rw [eZ, if_neg (fun h => h hs)]
  refine qV.go 30 [109, 115] ok_224 ?_
  simp only [qW_nop, qW_iconst, qW_iconstm, qW_bipush, qW_iloadn, qW_iload, qW_aloadn, qW_istore, qW_iinc, qW_iadd, qW_isub, qW_imul, qW_ifeq, qW_iceq, qW_icne, qW_iflt, qW_ifge, qW_icge, qW_icgt, qW_icle, qW_goto, qW_getf, qW_iald, qW_lald, qW_last, qW_cs1_0, qW_cv2_0, qW_iret1, Nat.reduceAdd, Nat.reduceMul, Nat.reduceBEq, Nat.reduceEqDiff, Nat.reduceLT, Nat.reduceLeDiff, Nat.zero_le, nI_add, nI_mul, nI_cl, qin_eq, qofI, qlg_0, qlg_s, qls_i0, qls_r0, qls_l0, qls_1, qls_2, qkl_i, qkl_r, qkl_l, qkl_n, qIsI_i, qIsL_l, qIsR_r, qint_i, qil_i, qil_r, qil_l, qf4_0, qf4_1, qf4_2, qf4_3, qf2_0, qf2_1, qcs_n, qcs_i, qcs_r, qcs_l, qst_n, qst_c, qJ_0, qJ_st, qJ_go, qfl_I, qfl_Z, qfl_L, qfl_R, qrI_i, qrL_l, qrV_v, qRcv_0, qRcv_s, eq_self, true_and, and_true, true_or, or_true, false_and, and_false, false_or, or_false, ite_true, if_true, if_false, Bool.true_or, Bool.false_or, Bool.or_false, beq_self_eq_true, Bool.false_eq_true, bX12_pour_0, bX12_pour_28, bX12_pour_34, bX12_pour_54, bX12_pour_60, bX12_pour_82, bX12_pour_109, bX12_pour_115, bX12_pour_118, bX12_pour_141, bX12_pour_143, bX12_pour_180, kX12_pour_0, kX12_pour_28, kX12_pour_34, kX12_pour_54, kX12_pour_60, kX12_pour_82, kX12_pour_109, kX12_pour_115, kX12_pour_118, kX12_pour_141, kX12_pour_143, kX12_pour_180, qK_139, qR_139_0, qK_140, qR_139_1, qK_141, qR_139_5, qK_142, qR_139_6, qK_143, qR_139_7, qK_144, qR_139_8, qK_145, qR_139_9, qK_146, qR_139_21, qK_147, qR_139_25, qK_148, qR_139_30, qK_149, qR_139_31, qK_150, qR_139_33, qK_151, qR_139_34, qK_152, qR_139_35, qK_153, qR_139_36, qK_154, qR_139_39, qK_155, qR_139_40, qK_156, qR_139_41, qK_157]
  simp (disch := omega) only [nI_leI, nI_ltI, nI_eq, nI_cl, qin_eq, nI_add, nI_mul, qb_z, qb_t, qb_f, nI_ne0', Nat.reduceAdd, Bool.false_eq_true, if_false, if_true, true_and, and_true, Nat.reduceEqDiff, not_true_eq_false, not_false_eq_true, false_implies, true_implies, ite_true, ite_false]
  rw [f2, t2]
  have no3 : ¬ ((p' : Int) + m' ≤ x ∧ (a' : Int) + m' ≤ y) → qV 224 2 (.inl (zCall σ (yPour A (nI f') (nI p') (nI t') (nI a') (nI m')))) 109 [some (qr 139), some (qi (nI f')), some (qi (nI p')), some (qi (nI t')), some (qi (nI a')), some (qi (nI m')), none, none] [] σ := by
    intro h
    refine qV.go 30 [9999] ok_224 ?_
    simp only [qW_nop, qW_iconst, qW_iconstm, qW_bipush, qW_iloadn, qW_iload, qW_aloadn, qW_istore, qW_iinc, qW_iadd, qW_isub, qW_imul, qW_ifeq, qW_iceq, qW_icne, qW_iflt, qW_ifge, qW_icge, qW_icgt, qW_icle, qW_goto, qW_getf, qW_iald, qW_lald, qW_last, qW_cs1_0, qW_cv2_0, qW_iret1, Nat.reduceAdd, Nat.reduceMul, Nat.reduceBEq, Nat.reduceEqDiff, Nat.reduceLT, Nat.reduceLeDiff, Nat.zero_le, nI_add, nI_mul, nI_cl, qin_eq, qofI, qlg_0, qlg_s, qls_i0, qls_r0, qls_l0, qls_1, qls_2, qkl_i, qkl_r, qkl_l, qkl_n, qIsI_i, qIsL_l, qIsR_r, qint_i, qil_i, qil_r, qil_l, qf4_0, qf4_1, qf4_2, qf4_3, qf2_0, qf2_1, qcs_n, qcs_i, qcs_r, qcs_l, qst_n, qst_c, qJ_0, qJ_st, qJ_go, qfl_I, qfl_Z, qfl_L, qfl_R, qrI_i, qrL_l, qrV_v, qRcv_0, qRcv_s, eq_self, true_and, and_true, true_or, or_true, false_and, and_false, false_or, or_false, ite_true, if_true, if_false, Bool.true_or, Bool.false_or, Bool.or_false, beq_self_eq_true, Bool.false_eq_true, bX12_pour_0, bX12_pour_28, bX12_pour_34, bX12_pour_54, bX12_pour_60, bX12_pour_82, bX12_pour_109, bX12_pour_115, bX12_pour_118, bX12_pour_141, bX12_pour_143, bX12_pour_180, kX12_pour_0, kX12_pour_28, kX12_pour_34, kX12_pour_54, kX12_pour_60, kX12_pour_82, kX12_pour_109, kX12_pour_115, kX12_pour_118, kX12_pour_141, kX12_pour_143, kX12_pour_180, qK_139, qR_139_0, qK_140, qR_139_1, qK_141, qR_139_5, qK_142, qR_139_6, qK_143, qR_139_7, qK_144, qR_139_8, qK_145, qR_139_9, qK_146, qR_139_21, qK_147, qR_139_25, qK_148, qR_139_30, qK_149, qR_139_31, qK_150, qR_139_33, qK_151, qR_139_34, qK_152, qR_139_35, qK_153, qR_139_36, qK_154, qR_139_39, qK_155, qR_139_40, qK_156, qR_139_41, qK_157]
    exact bad 3 (by decide) (by decide) (by rw [eZ, if_neg h])
  have sx : (nI x - nI p').toInt = (x : Int) - p' := by rw [iI_nat, iI_nat, iI_sub, iI_toInt (by omega) (by omega)]
  have sy : (nI y - nI a').toInt = (y : Int) - a' := by rw [iI_nat, iI_nat, iI_sub, iI_toInt (by omega) (by omega)]
  simp only [qlt, qle, sx, sy, nI_t hm]
  refine ⟨fun h => no3 (by omega), fun h => ⟨fun h0 => ?_, fun h0 => no3 (by omega)⟩⟩
  have h6 : p' + m' ≤ x := by omega
  have h7 : a' + m' ≤ y := by omega
  have eY : yPour A (nI f') (nI p') (nI t') (nI a') (nI m') = yT (sT A (zTpour (aT A) f' p' t' a' m')) := by
    have e0 : zpw (aT A) (nI f') (nI p') (nI t') (nI a') (nI m') = 0 := by rw [eZ, if_pos ⟨by omega, by omega⟩]
    unfold yPour
    rw [if_pos e0, nI_tn (by omega), nI_tn (by omega), nI_tn (by omega), nI_tn (by omega), nI_tn (by omega)]
  rw [eY]
  clear no3 bad eY eZ
  have fin : ∀ σ1, σ1.1 = σ.1 → (∀ c j, σ1.2 c j = if c = 144 ∧ 60 * t' + a' ≤ j ∧ j < 60 * t' + a' + m' then σ.2 144 (60 * f' + p' + (j - (60 * t' + a'))) else σ.2 c j) → qBI 2 213 [qr 139, qi (nI 0)] σ1 (fun r σ' => (r = nI 0 ∨ r = nI 1) ∧ zCall σ (yT (sT A (zTpour (aT A) f' p' t' a' m'))) r σ') := by
    intro σ1 g1 g2
    have fr : zG zPtr zRtr σ σ1 := ⟨fun c j _ => by rw [g1], fun c j hn => by rw [g2, if_neg (by unfold zRtr at hn; omega)]⟩
    have nT : zMT σ1 (zTpour (aT A) f' p' t' a' m') := by
      intro b hb
      obtain ⟨b1, b2, b3⟩ := hT b hb
      refine ⟨by rw [g1]; exact b1, by rw [g1]; exact b2, fun n j hn hj => ?_⟩
      have n60 := (wT b hb).2 n hn
      rw [g2]
      show _ = if b = t' ∧ a' ≤ j ∧ j < a' + m' then (aT A).2.2 f' (p' + (j - a')) else (aT A).2.2 b j
      by_cases e : b = t' ∧ a' ≤ j ∧ j < a' + m'
      · have e3 : 60 * f' + p' + (60 * b + j - (60 * t' + a')) = 60 * f' + (p' + (j - a')) := by omega
        rw [if_pos e, if_pos ⟨rfl, by omega, by omega⟩, e3]
        exact f3 x _ ex (by omega)
      · rw [if_neg e, if_neg (by omega)]
        exact b3 n j hn hj
    have S := hA.t hW fr nT
    refine e_is S.1 (hW.t ?_) S.2 (by decide) (by decide) rfl
    exact fun b hb => wT b hb
  refine qV.go 30 [118] ok_224 ?_
  simp only [qW_nop, qW_iconst, qW_iconstm, qW_bipush, qW_iloadn, qW_iload, qW_aloadn, qW_istore, qW_iinc, qW_iadd, qW_isub, qW_imul, qW_ifeq, qW_iceq, qW_icne, qW_iflt, qW_ifge, qW_icge, qW_icgt, qW_icle, qW_goto, qW_getf, qW_iald, qW_lald, qW_last, qW_cs1_0, qW_cv2_0, qW_iret1, Nat.reduceAdd, Nat.reduceMul, Nat.reduceBEq, Nat.reduceEqDiff, Nat.reduceLT, Nat.reduceLeDiff, Nat.zero_le, nI_add, nI_mul, nI_cl, qin_eq, qofI, qlg_0, qlg_s, qls_i0, qls_r0, qls_l0, qls_1, qls_2, qkl_i, qkl_r, qkl_l, qkl_n, qIsI_i, qIsL_l, qIsR_r, qint_i, qil_i, qil_r, qil_l, qf4_0, qf4_1, qf4_2, qf4_3, qf2_0, qf2_1, qcs_n, qcs_i, qcs_r, qcs_l, qst_n, qst_c, qJ_0, qJ_st, qJ_go, qfl_I, qfl_Z, qfl_L, qfl_R, qrI_i, qrL_l, qrV_v, qRcv_0, qRcv_s, eq_self, true_and, and_true, true_or, or_true, false_and, and_false, false_or, or_false, ite_true, if_true, if_false, Bool.true_or, Bool.false_or, Bool.or_false, beq_self_eq_true, Bool.false_eq_true, bX12_pour_0, bX12_pour_28, bX12_pour_34, bX12_pour_54, bX12_pour_60, bX12_pour_82, bX12_pour_109, bX12_pour_115, bX12_pour_118, bX12_pour_141, bX12_pour_143, bX12_pour_180, kX12_pour_0, kX12_pour_28, kX12_pour_34, kX12_pour_54, kX12_pour_60, kX12_pour_82, kX12_pour_109, kX12_pour_115, kX12_pour_118, kX12_pour_141, kX12_pour_143, kX12_pour_180, qK_139, qR_139_0, qK_140, qR_139_1, qK_141, qR_139_5, qK_142, qR_139_6, qK_143, qR_139_7, qK_144, qR_139_8, qK_145, qR_139_9, qK_146, qR_139_21, qK_147, qR_139_25, qK_148, qR_139_30, qK_149, qR_139_31, qK_150, qR_139_33, qK_151, qR_139_34, qK_152, qR_139_35, qK_153, qR_139_36, qK_154, qR_139_39, qK_155, qR_139_40, qK_156, qR_139_41, qK_157]
  by_cases eo : p' < a'
  · refine qdown (n := m') (P := fun i => ∀ σ1 (l7 : Option qPV), σ1.1 = σ.1 → (∀ c j, σ1.2 c j = if c = 144 ∧ 60 * t' + a' + (m' - i) ≤ j ∧ j < 60 * t' + a' + m' then σ.2 144 (60 * f' + p' + (j - (60 * t' + a'))) else σ.2 c j) → qV 224 2 (.inl (zCall σ (yT (sT A (zTpour (aT A) f' p' t' a' m'))))) 118 [some (qr 139), some (qi (nI f')), some (qi (nI p')), some (qi (nI t')), some (qi (nI a')), some (qi (nI m')), some (qi (nI i)), l7] [] σ1) (fun i hi ih => ?_) 0 (Nat.zero_le _) σ none rfl (fun c j => by rw [if_neg (by omega)])
    intro σ1 l7 g1 g2
    refine qV.go 30 [118] ok_224 ?_
    simp only [qW_nop, qW_iconst, qW_iconstm, qW_bipush, qW_iloadn, qW_iload, qW_aloadn, qW_istore, qW_iinc, qW_iadd, qW_isub, qW_imul, qW_ifeq, qW_iceq, qW_icne, qW_iflt, qW_ifge, qW_icge, qW_icgt, qW_icle, qW_goto, qW_getf, qW_iald, qW_lald, qW_last, qW_cs1_0, qW_cv2_0, qW_iret1, Nat.reduceAdd, Nat.reduceMul, Nat.reduceBEq, Nat.reduceEqDiff, Nat.reduceLT, Nat.reduceLeDiff, Nat.zero_le, nI_add, nI_mul, nI_cl, qin_eq, qofI, qlg_0, qlg_s, qls_i0, qls_r0, qls_l0, qls_1, qls_2, qkl_i, qkl_r, qkl_l, qkl_n, qIsI_i, qIsL_l, qIsR_r, qint_i, qil_i, qil_r, qil_l, qf4_0, qf4_1, qf4_2, qf4_3, qf2_0, qf2_1, qcs_n, qcs_i, qcs_r, qcs_l, qst_n, qst_c, qJ_0, qJ_st, qJ_go, qfl_I, qfl_Z, qfl_L, qfl_R, qrI_i, qrL_l, qrV_v, qRcv_0, qRcv_s, eq_self, true_and, and_true, true_or, or_true, false_and, and_false, false_or, or_false, ite_true, if_true, if_false, Bool.true_or, Bool.false_or, Bool.or_false, beq_self_eq_true, Bool.false_eq_true, bX12_pour_0, bX12_pour_28, bX12_pour_34, bX12_pour_54, bX12_pour_60, bX12_pour_82, bX12_pour_109, bX12_pour_115, bX12_pour_118, bX12_pour_141, bX12_pour_143, bX12_pour_180, kX12_pour_0, kX12_pour_28, kX12_pour_34, kX12_pour_54, kX12_pour_60, kX12_pour_82, kX12_pour_109, kX12_pour_115, kX12_pour_118, kX12_pour_141, kX12_pour_143, kX12_pour_180, qK_139, qR_139_0, qK_140, qR_139_1, qK_141, qR_139_5, qK_142, qR_139_6, qK_143, qR_139_7, qK_144, qR_139_8, qK_145, qR_139_9, qK_146, qR_139_21, qK_147, qR_139_25, qK_148, qR_139_30, qK_149, qR_139_31, qK_150, qR_139_33, qK_151, qR_139_34, qK_152, qR_139_35, qK_153, qR_139_36, qK_154, qR_139_39, qK_155, qR_139_40, qK_156, qR_139_41, qK_157]
    simp (disch := omega) only [nI_leI, nI_ltI, nI_eq, nI_cl, qin_eq, nI_add, nI_mul, qb_z, qb_t, qb_f, nI_ne0', Nat.reduceAdd, Bool.false_eq_true, if_false, if_true, true_and, and_true, Nat.reduceEqDiff, not_true_eq_false, not_false_eq_true, false_implies, true_implies, ite_true, ite_false]
    refine ⟨fun h => ?_, fun h => ?_⟩
    · have : i = m' := by omega
      subst this
      exact fin σ1 g1 (fun c j => by rw [g2, Nat.sub_self, Nat.add_zero])
    · refine ⟨fun hh => absurd eo (by omega), fun _ => ?_⟩
      rw [nI_sub (by omega), nI_sub (by omega)]
      simp (disch := omega) only [nI_leI, nI_ltI, nI_eq, nI_cl, qin_eq, nI_add, nI_mul, qb_z, qb_t, qb_f, nI_ne0', Nat.reduceAdd, Bool.false_eq_true, if_false, if_true, true_and, and_true, Nat.reduceEqDiff, not_true_eq_false, not_false_eq_true, false_implies, true_implies, ite_true, ite_false]
      have := ih (by omega) (qwl σ1 144 (60 * t' + a' + (m' - 1 - i)) (σ1.2 144 (60 * f' + p' + (m' - 1 - i)))) (some (qi (nI (m' - 1 - i)))) g1 (fun c j => ?_)
      · exact this
      · rw [qwl_2]
        by_cases e : c = 144 ∧ j = 60 * t' + a' + (m' - 1 - i)
        · rw [if_pos e, if_pos (by omega), g2, if_neg (by omega), show j - (60 * t' + a') = m' - 1 - i by omega]
        · rw [if_neg e, g2]
          by_cases e2 : c = 144 ∧ 60 * t' + a' + (m' - i) ≤ j ∧ j < 60 * t' + a' + m'
          · rw [if_pos e2, if_pos (by omega)]
          · rw [if_neg e2, if_neg (by omega)]
  · refine qdown (n := m') (P := fun i => ∀ σ1 (l7 : Option qPV), σ1.1 = σ.1 → (∀ c j, σ1.2 c j = if c = 144 ∧ 60 * t' + a' ≤ j ∧ j < 60 * t' + a' + i then σ.2 144 (60 * f' + p' + (j - (60 * t' + a'))) else σ.2 c j) → qV 224 2 (.inl (zCall σ (yT (sT A (zTpour (aT A) f' p' t' a' m'))))) 118 [some (qr 139), some (qi (nI f')), some (qi (nI p')), some (qi (nI t')), some (qi (nI a')), some (qi (nI m')), some (qi (nI i)), l7] [] σ1) (fun i hi ih => ?_) 0 (Nat.zero_le _) σ none rfl (fun c j => by rw [if_neg (by omega)])
    intro σ1 l7 g1 g2
    refine qV.go 30 [118] ok_224 ?_
    simp only [qW_nop, qW_iconst, qW_iconstm, qW_bipush, qW_iloadn, qW_iload, qW_aloadn, qW_istore, qW_iinc, qW_iadd, qW_isub, qW_imul, qW_ifeq, qW_iceq, qW_icne, qW_iflt, qW_ifge, qW_icge, qW_icgt, qW_icle, qW_goto, qW_getf, qW_iald, qW_lald, qW_last, qW_cs1_0, qW_cv2_0, qW_iret1, Nat.reduceAdd, Nat.reduceMul, Nat.reduceBEq, Nat.reduceEqDiff, Nat.reduceLT, Nat.reduceLeDiff, Nat.zero_le, nI_add, nI_mul, nI_cl, qin_eq, qofI, qlg_0, qlg_s, qls_i0, qls_r0, qls_l0, qls_1, qls_2, qkl_i, qkl_r, qkl_l, qkl_n, qIsI_i, qIsL_l, qIsR_r, qint_i, qil_i, qil_r, qil_l, qf4_0, qf4_1, qf4_2, qf4_3, qf2_0, qf2_1, qcs_n, qcs_i, qcs_r, qcs_l, qst_n, qst_c, qJ_0, qJ_st, qJ_go, qfl_I, qfl_Z, qfl_L, qfl_R, qrI_i, qrL_l, qrV_v, qRcv_0, qRcv_s, eq_self, true_and, and_true, true_or, or_true, false_and, and_false, false_or, or_false, ite_true, if_true, if_false, Bool.true_or, Bool.false_or, Bool.or_false, beq_self_eq_true, Bool.false_eq_true, bX12_pour_0, bX12_pour_28, bX12_pour_34, bX12_pour_54, bX12_pour_60, bX12_pour_82, bX12_pour_109, bX12_pour_115, bX12_pour_118, bX12_pour_141, bX12_pour_143, bX12_pour_180, kX12_pour_0, kX12_pour_28, kX12_pour_34, kX12_pour_54, kX12_pour_60, kX12_pour_82, kX12_pour_109, kX12_pour_115, kX12_pour_118, kX12_pour_141, kX12_pour_143, kX12_pour_180, qK_139, qR_139_0, qK_140, qR_139_1, qK_141, qR_139_5, qK_142, qR_139_6, qK_143, qR_139_7, qK_144, qR_139_8, qK_145, qR_139_9, qK_146, qR_139_21, qK_147, qR_139_25, qK_148, qR_139_30, qK_149, qR_139_31, qK_150, qR_139_33, qK_151, qR_139_34, qK_152, qR_139_35, qK_153, qR_139_36, qK_154, qR_139_39, qK_155, qR_139_40, qK_156, qR_139_41, qK_157]
    simp (disch := omega) only [nI_leI, nI_ltI, nI_eq, nI_cl, qin_eq, nI_add, nI_mul, qb_z, qb_t, qb_f, nI_ne0', Nat.reduceAdd, Bool.false_eq_true, if_false, if_true, true_and, and_true, Nat.reduceEqDiff, not_true_eq_false, not_false_eq_true, false_implies, true_implies, ite_true, ite_false]
    refine ⟨fun h => ?_, fun h => ?_⟩
    · have : i = m' := by omega
      subst this
      exact fin σ1 g1 g2
    · refine ⟨fun _ => ?_, fun hh => absurd hh (by omega)⟩
      simp (disch := omega) only [nI_leI, nI_ltI, nI_eq, nI_cl, qin_eq, nI_add, nI_mul, qb_z, qb_t, qb_f, nI_ne0', Nat.reduceAdd, Bool.false_eq_true, if_false, if_true, true_and, and_true, Nat.reduceEqDiff, not_true_eq_false, not_false_eq_true, false_implies, true_implies, ite_true, ite_false]
      have := ih (by omega) (qwl σ1 144 (60 * t' + a' + i) (σ1.2 144 (60 * f' + p' + i))) (some (qi (nI i))) g1 (fun c j => ?_)
      · exact this
      · rw [qwl_2]
        by_cases e : c = 144 ∧ j = 60 * t' + a' + i
        · rw [if_pos e, if_pos (by omega), g2, if_neg (by omega), show j - (60 * t' + a') = i by omega]
        · rw [if_neg e, g2]
          by_cases e2 : c = 144 ∧ 60 * t' + a' ≤ j ∧ j < 60 * t' + a' + i
          · rw [if_pos e2, if_pos (by omega)]
          · rw [if_neg e2, if_neg (by omega)]
theorem zTy_W {T : zT} (h : zTW T) (C : zC) (t : Nat) : ∀ b, zTW (zTy C T t b)
  | 0 => h
  | b + 1 => fun a ha => zTy_W h C t b a ha
theorem zTy_s (C : zC) (T : zT) (t : Nat) : ∀ b, (zTy C T t b).1 = T.1 ∧ (zTy C T t b).2.1 = T.2.1
  | 0 => ⟨rfl, rfl⟩
  | b + 1 => zTy_s C T t b
set_option maxRecDepth 20000 in
theorem M_copyYields {σ : qSg} {A : zA} (hA : zMA σ A) (hW : zAW A) (t : Int32) : qCI 3 352 [qr 139, qi t] σ (zCall σ (yCopyYields A t)) := by
  have hT := hA.2.2.2.1
  have hM := hA.m
  have hw := hW.w
  have wb := hw.1
  have wT : zTW (aT A) := hW.2.2.2.1
  refine qCI.of [some (qr 139), some (qi t), none] ok_352 (Nat.le_of_ble_eq_true rfl) rfl ?_
  refine qV.go 30 [52] ok_352 ?_
  simp only [qW_nop, qW_iconst, qW_iconstm, qW_bipush, qW_iloadn, qW_aloadn, qW_istoren, qW_iinc, qW_iadd, qW_imul, qW_i2l, qW_ifne, qW_icne, qW_icge, qW_goto, qW_getf, qW_iald, qW_last, qW_cs1_0, qW_cs2_1, qW_cv2_0, qW_cv3_0, qW_iret0, Nat.reduceAdd, Nat.reduceMul, Nat.reduceBEq, Nat.reduceEqDiff, Nat.reduceLT, Nat.reduceLeDiff, Nat.zero_le, nI_add, nI_mul, nI_cl, qin_eq, qofI, qlg_0, qlg_s, qls_i0, qls_r0, qls_l0, qls_1, qls_2, qkl_i, qkl_r, qkl_l, qkl_n, qIsI_i, qIsL_l, qIsR_r, qint_i, qil_i, qil_r, qil_l, qf4_0, qf4_1, qf4_2, qf4_3, qf2_0, qf2_1, qcs_n, qcs_i, qcs_r, qcs_l, qst_n, qst_c, qJ_0, qJ_st, qJ_go, qfl_I, qfl_Z, qfl_L, qfl_R, qrI_i, qrL_l, qrV_v, qRcv_0, qRcv_s, eq_self, true_and, and_true, true_or, or_true, false_and, and_false, false_or, or_false, ite_true, if_true, if_false, Bool.true_or, Bool.false_or, Bool.or_false, beq_self_eq_true, Bool.false_eq_true, bX12_copyYields_0, bX12_copyYields_13, bX12_copyYields_29, bX12_copyYields_50, bX12_copyYields_52, bX12_copyYields_95, kX12_copyYields_0, kX12_copyYields_13, kX12_copyYields_29, kX12_copyYields_50, kX12_copyYields_52, kX12_copyYields_95, qK_139, qR_139_0, qK_140, qR_139_1, qK_141, qR_139_5, qK_142, qR_139_6, qK_143, qR_139_7, qK_144, qR_139_8, qK_145, qR_139_9, qK_146, qR_139_21, qK_147, qR_139_25, qK_148, qR_139_30, qK_149, qR_139_31, qK_150, qR_139_33, qK_151, qR_139_34, qK_152, qR_139_35, qK_153, qR_139_36, qK_154, qR_139_39, qK_155, qR_139_40, qK_156, qR_139_41, qK_157]
  refine qBI.fn (m_isTray σ t) (by decide) ?_
  simp (disch := omega) only [nI_leI, nI_ltI, nI_eq, nI_cl, qin_eq, nI_add, nI_mul, qb_z, qb_t, qb_f, nI_ne0', Nat.reduceAdd, Bool.false_eq_true, if_false, if_true, true_and, and_true, Nat.reduceEqDiff, not_true_eq_false, not_false_eq_true, false_implies, true_implies, ite_true, ite_false]
  refine ⟨fun h2 => ?_, fun h2 => e_no hA hW zRef.rf (by decide) (by unfold yCopyYields; rw [if_pos h2]; rfl)⟩
  have h2 : zrg t 4 = true := by simpa using h2
  obtain ⟨t', ht, rfl⟩ := zrg_nI h2
  obtain ⟨t1, t2, t3⟩ := hT t' ht
  obtain ⟨wt1, wt2⟩ := wT t' ht
  have eY : yCopyYields A (nI t') = match (aT A).2.1 t' with
    | none => yNo A 2
    | some n => if n < aC A 0 0 then yNo A 3 else yOk (sT A (zTy (aC A) (aT A) t' (aC A 0 0))) (nI (aC A 0 0)) := by
    unfold yCopyYields
    rw [if_neg (by rw [h2]; decide), nI_tn (by omega)]
    cases (aT A).2.1 t' <;> rfl
  rw [eY]
  simp (disch := omega) only [nI_leI, nI_ltI, nI_eq, nI_cl, qin_eq, nI_add, nI_mul, qb_z, qb_t, qb_f, nI_ne0', Nat.reduceAdd, Bool.false_eq_true, if_false, if_true, true_and, and_true, Nat.reduceEqDiff, not_true_eq_false, not_false_eq_true, false_implies, true_implies, ite_true, ite_false]
  rw [t2, zoI_n _ wt2, zM_s hM 0 (by decide)]
  cases ex : (aT A).2.1 t' with
  | none =>
    refine ⟨fun hh => absurd rfl hh, fun _ => e_no hA hW zRef.rf (by decide) rfl⟩
  | some n =>
    have n60 := wt2 n ex
    refine ⟨fun _ => ?_, fun hh => by cases hh⟩
    show _ ∧ _
    simp only [zoI]
    simp (disch := omega) only [nI_leI, nI_ltI, nI_eq, nI_cl, qin_eq, nI_add, nI_mul, qb_z, qb_t, qb_f, nI_ne0', Nat.reduceAdd, Bool.false_eq_true, if_false, if_true, true_and, and_true, Nat.reduceEqDiff, not_true_eq_false, not_false_eq_true, false_implies, true_implies, ite_true, ite_false]
    refine ⟨fun h => ?_, fun h => ?_⟩
    · rw [if_neg (by omega)]
      refine qdown (n := aC A 0 0) (P := fun b => ∀ σ1, zMT σ1 (zTy (aC A) (aT A) t' b) → zG zPtr zRtr σ σ1 → qV 352 3 (.inl (zCall σ (yOk (sT A (zTy (aC A) (aT A) t' (aC A 0 0))) (nI (aC A 0 0))))) 52 [some (qr 139), some (qi (nI t')), some (qi (nI b))] [] σ1) (fun b hb ih => ?_) 0 (Nat.zero_le _) σ hT zG.rf
      intro σ1 T1 f1
      have S := hA.t hW f1 T1
      have M1 := S.1.m
      have M1 : zM σ1 0 (aC A) := M1
      refine qV.go 30 [52] ok_352 ?_
      simp only [qW_nop, qW_iconst, qW_iconstm, qW_bipush, qW_iloadn, qW_aloadn, qW_istoren, qW_iinc, qW_iadd, qW_imul, qW_i2l, qW_ifne, qW_icne, qW_icge, qW_goto, qW_getf, qW_iald, qW_last, qW_cs1_0, qW_cs2_1, qW_cv2_0, qW_cv3_0, qW_iret0, Nat.reduceAdd, Nat.reduceMul, Nat.reduceBEq, Nat.reduceEqDiff, Nat.reduceLT, Nat.reduceLeDiff, Nat.zero_le, nI_add, nI_mul, nI_cl, qin_eq, qofI, qlg_0, qlg_s, qls_i0, qls_r0, qls_l0, qls_1, qls_2, qkl_i, qkl_r, qkl_l, qkl_n, qIsI_i, qIsL_l, qIsR_r, qint_i, qil_i, qil_r, qil_l, qf4_0, qf4_1, qf4_2, qf4_3, qf2_0, qf2_1, qcs_n, qcs_i, qcs_r, qcs_l, qst_n, qst_c, qJ_0, qJ_st, qJ_go, qfl_I, qfl_Z, qfl_L, qfl_R, qrI_i, qrL_l, qrV_v, qRcv_0, qRcv_s, eq_self, true_and, and_true, true_or, or_true, false_and, and_false, false_or, or_false, ite_true, if_true, if_false, Bool.true_or, Bool.false_or, Bool.or_false, beq_self_eq_true, Bool.false_eq_true, bX12_copyYields_0, bX12_copyYields_13, bX12_copyYields_29, bX12_copyYields_50, bX12_copyYields_52, bX12_copyYields_95, kX12_copyYields_0, kX12_copyYields_13, kX12_copyYields_29, kX12_copyYields_50, kX12_copyYields_52, kX12_copyYields_95, qK_139, qR_139_0, qK_140, qR_139_1, qK_141, qR_139_5, qK_142, qR_139_6, qK_143, qR_139_7, qK_144, qR_139_8, qK_145, qR_139_9, qK_146, qR_139_21, qK_147, qR_139_25, qK_148, qR_139_30, qK_149, qR_139_31, qK_150, qR_139_33, qK_151, qR_139_34, qK_152, qR_139_35, qK_153, qR_139_36, qK_154, qR_139_39, qK_155, qR_139_40, qK_156, qR_139_41, qK_157]
      rw [zM_s M1 0 (by decide)]
      simp (disch := omega) only [nI_leI, nI_ltI, nI_eq, nI_cl, qin_eq, nI_add, nI_mul, qb_z, qb_t, qb_f, nI_ne0', Nat.reduceAdd, Bool.false_eq_true, if_false, if_true, true_and, and_true, Nat.reduceEqDiff, not_true_eq_false, not_false_eq_true, false_implies, true_implies, ite_true, ite_false]
      refine ⟨fun g => ?_, fun g => ?_⟩
      · have : b = aC A 0 0 := by omega
        subst this
        exact e_ok S.1 (hW.t (zTy_W wT _ _ _)) S.2 (by decide) rfl
      · have hb1 : b < aC A 0 0 := by omega
        refine qBI.fn (m_boyOf σ1 (by omega)) (by decide) ?_
        rw [zMb4 M1 hb1]
        have es := zTy_s (aC A) (aT A) t' b
        have wy := zTy_W wT (aC A) t' b
        obtain ⟨u1, u2, u3⟩ := T1 t' ht
        rw [u1, es.1]
        refine qBL.fn (m_cut σ1 _ wt1) (by decide) ?_
        have P := zMT_put T1 wy (t := t') (j := b) (n := n) ht (by rw [es.2]; exact ex) (by omega) (nI (aC A 5 b)).toInt64
        rw [es.1] at P
        have := ih hb1 _ P (f1.tr (zG.wl rfl))
        exact this
    · rw [if_pos (by omega)]
      exact e_no hA hW zRef.rf (by decide) rfl
