/-! the class's calls: pouring -/
theorem zhold_n {T : zT} {f p m x : Nat} (hf : f < 4) (hp : p < 2147483648) (hm : m < 2147483648) (ex : T.2.1 f = some x) : zhold T (nI f) (nI p) (nI m) = decide ((p : Int) + m ≤ x) := by
  unfold zhold zsz
  rw [zT_l hf, ex, nI_t hp, nI_t hm, nI_tn (by omega), ex]
  show (true && (decide ((0 : Int) ≤ (p : Int)) && (decide ((0 : Int) ≤ (m : Int)) && decide ((p : Int) + m ≤ (x : Int))))) = _
  rw [decide_eq_true (show (0 : Int) ≤ (p : Int) by omega), decide_eq_true (show (0 : Int) ≤ (m : Int) by omega)]
  rfl
set_option maxRecDepth 20000 in
theorem X_pour {σ : qSg} {A : zA} (hA : zXA σ A) (hW : zAW A) (f p t a m : Int32) : qCI 5 151 [qr 0, qi f, qi p, qi t, qi a, qi m] σ (zXCall σ (yPour A f p t a m)) := by
  have hT := hA.2.2.1
  have wT : zTW (aT A) := hW.2.2.2.1
  refine qCI.of [some (qr 0), some (qi f), some (qi p), some (qi t), some (qi a), some (qi m)] ok_151 (Nat.le_of_ble_eq_true rfl) rfl ?_
  have bad : ∀ k, k < 10 → k ≠ 0 → zpw (aT A) f p t a m = k → qBI 5 142 [qr 0, qi (nI k)] σ (fun r σ' => (r = nI 0 ∨ r = nI 1) ∧ zXCall σ (yPour A f p t a m) r σ') := by
    intro k hk k0 e
    refine g_deny hA hW zCls.rf (by decide) ?_
    unfold yPour
    rw [e, if_neg k0]
    rfl
  have no : (zrg f 4 && zrg t 4 && decide (0 ≤ p.toInt) && decide (0 ≤ a.toInt) && decide (0 ≤ m.toInt)) = false → qV 151 5 (.inl (zXCall σ (yPour A f p t a m))) 36 [some (qr 0), some (qi f), some (qi p), some (qi t), some (qi a), some (qi m)] [] σ := by
    intro hz
    refine qV.go 30 [9999] ok_151 ?_
    simp only [qW_nop, qW_iconst, qW_bipush, qW_iloadn, qW_iload, qW_aloadn, qW_ifeq, qW_ifne, qW_iflt, qW_ifge, qW_getf, qW_cv1_0, qW_cv2_0, qW_cv3_0, qW_cv4_0, qW_cv6_2, qW_iret1, Nat.reduceAdd, Nat.reduceMul, Nat.reduceBEq, Nat.reduceEqDiff, Nat.reduceLT, Nat.reduceLeDiff, Nat.zero_le, nI_add, nI_mul, nI_cl, qin_eq, qofI, qlg_0, qlg_s, qls_i0, qls_r0, qls_l0, qls_1, qls_2, qkl_i, qkl_r, qkl_l, qkl_n, qIsI_i, qIsL_l, qIsR_r, qint_i, qil_i, qil_r, qil_l, qf4_0, qf4_1, qf4_2, qf4_3, qf2_0, qf2_1, qcs_n, qcs_i, qcs_r, qcs_l, qst_n, qst_c, qJ_0, qJ_st, qJ_go, qfl_I, qfl_Z, qfl_L, qfl_R, qrI_i, qrL_l, qrV_v, qRcv_0, qRcv_s, eq_self, true_and, and_true, true_or, or_true, false_and, and_false, false_or, or_false, ite_true, if_true, if_false, Bool.true_or, Bool.false_or, Bool.or_false, beq_self_eq_true, Bool.false_eq_true, bX11_pour_0, bX11_pour_36, bX11_pour_42, bX11_pour_64, bX11_pour_70, bX11_pour_89, bX11_pour_118, bX11_pour_124, kX11_pour_0, kX11_pour_36, kX11_pour_42, kX11_pour_64, kX11_pour_70, kX11_pour_89, kX11_pour_118, kX11_pour_124, qK_0, qR_0_0, qK_1, qR_0_1, qK_13, qR_0_2, qK_25, qR_0_3, qK_40, qR_0_4, qK_41, qR_0_5, qK_45, qR_0_6, qK_46, qR_0_7, qK_50, qR_0_8, qK_53, qR_0_9, qK_66, qR_0_10, qK_74, qR_0_11, qK_80, qR_0_12, qK_82, qR_0_14, qK_83, qR_0_15, qK_84]
    exact bad 1 (by decide) (by decide) (by unfold zpw; rw [if_pos hz])
  refine qV.go 30 [36, 42] ok_151 ?_
  simp only [qW_nop, qW_iconst, qW_bipush, qW_iloadn, qW_iload, qW_aloadn, qW_ifeq, qW_ifne, qW_iflt, qW_ifge, qW_getf, qW_cv1_0, qW_cv2_0, qW_cv3_0, qW_cv4_0, qW_cv6_2, qW_iret1, Nat.reduceAdd, Nat.reduceMul, Nat.reduceBEq, Nat.reduceEqDiff, Nat.reduceLT, Nat.reduceLeDiff, Nat.zero_le, nI_add, nI_mul, nI_cl, qin_eq, qofI, qlg_0, qlg_s, qls_i0, qls_r0, qls_l0, qls_1, qls_2, qkl_i, qkl_r, qkl_l, qkl_n, qIsI_i, qIsL_l, qIsR_r, qint_i, qil_i, qil_r, qil_l, qf4_0, qf4_1, qf4_2, qf4_3, qf2_0, qf2_1, qcs_n, qcs_i, qcs_r, qcs_l, qst_n, qst_c, qJ_0, qJ_st, qJ_go, qfl_I, qfl_Z, qfl_L, qfl_R, qrI_i, qrL_l, qrV_v, qRcv_0, qRcv_s, eq_self, true_and, and_true, true_or, or_true, false_and, and_false, false_or, or_false, ite_true, if_true, if_false, Bool.true_or, Bool.false_or, Bool.or_false, beq_self_eq_true, Bool.false_eq_true, bX11_pour_0, bX11_pour_36, bX11_pour_42, bX11_pour_64, bX11_pour_70, bX11_pour_89, bX11_pour_118, bX11_pour_124, kX11_pour_0, kX11_pour_36, kX11_pour_42, kX11_pour_64, kX11_pour_70, kX11_pour_89, kX11_pour_118, kX11_pour_124, qK_0, qR_0_0, qK_1, qR_0_1, qK_13, qR_0_2, qK_25, qR_0_3, qK_40, qR_0_4, qK_41, qR_0_5, qK_45, qR_0_6, qK_46, qR_0_7, qK_50, qR_0_8, qK_53, qR_0_9, qK_66, qR_0_10, qK_74, qR_0_11, qK_80, qR_0_12, qK_82, qR_0_14, qK_83, qR_0_15, qK_84, qK_46, qR_46_0, qK_47, qR_46_1, qK_48, qR_46_2, qK_49]
  refine qBI.fn (x_known σ f) (by decide) ?_
  simp (disch := omega) only [nI_leI, nI_ltI, nI_eq, nI_cl, qin_eq, nI_add, nI_mul, qb_z, qb_t, qb_f, nI_ne0', Nat.reduceAdd, Bool.false_eq_true, if_false, if_true, true_and, and_true, Nat.reduceEqDiff, not_true_eq_false, not_false_eq_true, false_implies, true_implies, ite_true, ite_false, Bool.not_eq_false, Bool.not_eq_true]
  refine ⟨fun h1 => no (by rw [h1]; rfl), fun h1 => ?_⟩
  refine qBI.fn (x_known σ t) (by decide) ?_
  simp (disch := omega) only [nI_leI, nI_ltI, nI_eq, nI_cl, qin_eq, nI_add, nI_mul, qb_z, qb_t, qb_f, nI_ne0', Nat.reduceAdd, Bool.false_eq_true, if_false, if_true, true_and, and_true, Nat.reduceEqDiff, not_true_eq_false, not_false_eq_true, false_implies, true_implies, ite_true, ite_false, Bool.not_eq_false, Bool.not_eq_true]
  refine ⟨fun h2 => no (by rw [h2, Bool.and_false]; rfl), fun h2 => ?_⟩
  simp only [z0i, qlt, qle]
  refine ⟨fun h3 => no (by rw [decide_eq_false (p := 0 ≤ p.toInt) (by omega), Bool.and_false]; rfl), fun h3 => ⟨fun h4 => no (by rw [decide_eq_false (p := 0 ≤ a.toInt) (by omega), Bool.and_false]; rfl), fun h4 => ⟨fun h5 => ?_, fun h5 => no (by rw [decide_eq_false (p := 0 ≤ m.toInt) (by omega), Bool.and_false])⟩⟩⟩
  have hz : (zrg f 4 && zrg t 4 && decide (0 ≤ p.toInt) && decide (0 ≤ a.toInt) && decide (0 ≤ m.toInt)) = true := by
    rw [h1, h2, decide_eq_true (show 0 ≤ p.toInt by omega), decide_eq_true (show 0 ≤ a.toInt by omega), decide_eq_true h5]; rfl
  have ex : ∀ x : Int32, 0 ≤ x.toInt → ∃ k, k < 2147483648 ∧ x = nI k := fun x hx => by
    have := qx_range x
    refine ⟨x.toInt.toNat, by omega, ?_⟩
    rw [qeq, nI_t (by omega)]
    omega
  obtain ⟨f', hf, rfl⟩ := zrg_nI h1
  obtain ⟨t', ht, rfl⟩ := zrg_nI h2
  obtain ⟨p', hp, rfl⟩ := ex p (by omega)
  obtain ⟨a', ha, rfl⟩ := ex a (by omega)
  obtain ⟨m', hm, rfl⟩ := ex m h5
  have eZ : zpw (aT A) (nI f') (nI p') (nI t') (nI a') (nI m') = match (aT A).2.1 f', (aT A).2.1 t' with
    | some x, some y => if (aT A).1 f' ≠ (aT A).1 t' then 8 else if (p' : Int) + m' ≤ x ∧ (a' : Int) + m' ≤ y then 0 else 3
    | _, _ => 2 := by
    unfold zpw
    rw [if_neg (by rw [hz]; decide), nI_tn (by omega), nI_tn (by omega), nI_t hp, nI_t ha, nI_t hm]
    cases (aT A).2.1 f' <;> cases (aT A).2.1 t' <;> rfl
  clear no ex
  have no2 : zpw (aT A) (nI f') (nI p') (nI t') (nI a') (nI m') = 2 → qV 151 5 (.inl (zXCall σ (yPour A (nI f') (nI p') (nI t') (nI a') (nI m')))) 64 [some (qr 0), some (qi (nI f')), some (qi (nI p')), some (qi (nI t')), some (qi (nI a')), some (qi (nI m'))] [] σ := by
    intro h
    refine qV.go 30 [9999] ok_151 ?_
    simp only [qW_nop, qW_iconst, qW_bipush, qW_iloadn, qW_iload, qW_aloadn, qW_ifeq, qW_ifne, qW_iflt, qW_ifge, qW_getf, qW_cv1_0, qW_cv2_0, qW_cv3_0, qW_cv4_0, qW_cv6_2, qW_iret1, Nat.reduceAdd, Nat.reduceMul, Nat.reduceBEq, Nat.reduceEqDiff, Nat.reduceLT, Nat.reduceLeDiff, Nat.zero_le, nI_add, nI_mul, nI_cl, qin_eq, qofI, qlg_0, qlg_s, qls_i0, qls_r0, qls_l0, qls_1, qls_2, qkl_i, qkl_r, qkl_l, qkl_n, qIsI_i, qIsL_l, qIsR_r, qint_i, qil_i, qil_r, qil_l, qf4_0, qf4_1, qf4_2, qf4_3, qf2_0, qf2_1, qcs_n, qcs_i, qcs_r, qcs_l, qst_n, qst_c, qJ_0, qJ_st, qJ_go, qfl_I, qfl_Z, qfl_L, qfl_R, qrI_i, qrL_l, qrV_v, qRcv_0, qRcv_s, eq_self, true_and, and_true, true_or, or_true, false_and, and_false, false_or, or_false, ite_true, if_true, if_false, Bool.true_or, Bool.false_or, Bool.or_false, beq_self_eq_true, Bool.false_eq_true, bX11_pour_0, bX11_pour_36, bX11_pour_42, bX11_pour_64, bX11_pour_70, bX11_pour_89, bX11_pour_118, bX11_pour_124, kX11_pour_0, kX11_pour_36, kX11_pour_42, kX11_pour_64, kX11_pour_70, kX11_pour_89, kX11_pour_118, kX11_pour_124, qK_0, qR_0_0, qK_1, qR_0_1, qK_13, qR_0_2, qK_25, qR_0_3, qK_40, qR_0_4, qK_41, qR_0_5, qK_45, qR_0_6, qK_46, qR_0_7, qK_50, qR_0_8, qK_53, qR_0_9, qK_66, qR_0_10, qK_74, qR_0_11, qK_80, qR_0_12, qK_82, qR_0_14, qK_83, qR_0_15, qK_84]
    exact bad 2 (by decide) (by decide) h
  refine qV.go 30 [64, 70] ok_151 ?_
  simp only [qW_nop, qW_iconst, qW_bipush, qW_iloadn, qW_iload, qW_aloadn, qW_ifeq, qW_ifne, qW_iflt, qW_ifge, qW_getf, qW_cv1_0, qW_cv2_0, qW_cv3_0, qW_cv4_0, qW_cv6_2, qW_iret1, Nat.reduceAdd, Nat.reduceMul, Nat.reduceBEq, Nat.reduceEqDiff, Nat.reduceLT, Nat.reduceLeDiff, Nat.zero_le, nI_add, nI_mul, nI_cl, qin_eq, qofI, qlg_0, qlg_s, qls_i0, qls_r0, qls_l0, qls_1, qls_2, qkl_i, qkl_r, qkl_l, qkl_n, qIsI_i, qIsL_l, qIsR_r, qint_i, qil_i, qil_r, qil_l, qf4_0, qf4_1, qf4_2, qf4_3, qf2_0, qf2_1, qcs_n, qcs_i, qcs_r, qcs_l, qst_n, qst_c, qJ_0, qJ_st, qJ_go, qfl_I, qfl_Z, qfl_L, qfl_R, qrI_i, qrL_l, qrV_v, qRcv_0, qRcv_s, eq_self, true_and, and_true, true_or, or_true, false_and, and_false, false_or, or_false, ite_true, if_true, if_false, Bool.true_or, Bool.false_or, Bool.or_false, beq_self_eq_true, Bool.false_eq_true, bX11_pour_0, bX11_pour_36, bX11_pour_42, bX11_pour_64, bX11_pour_70, bX11_pour_89, bX11_pour_118, bX11_pour_124, kX11_pour_0, kX11_pour_36, kX11_pour_42, kX11_pour_64, kX11_pour_70, kX11_pour_89, kX11_pour_118, kX11_pour_124, qK_0, qR_0_0, qK_1, qR_0_1, qK_13, qR_0_2, qK_25, qR_0_3, qK_40, qR_0_4, qK_41, qR_0_5, qK_45, qR_0_6, qK_46, qR_0_7, qK_50, qR_0_8, qK_53, qR_0_9, qK_66, qR_0_10, qK_74, qR_0_11, qK_80, qR_0_12, qK_82, qR_0_14, qK_83, qR_0_15, qK_84, qK_46, qR_46_0, qK_47, qR_46_1, qK_48, qR_46_2, qK_49]
  refine qBI.fn (x_laid hT wT (nI f')) (by decide) ?_
  rw [zT_l hf]
  cases exx : (aT A).2.1 f' with
  | none =>
    simp only [Option.isSome]
    simp (disch := omega) only [nI_leI, nI_ltI, nI_eq, nI_cl, qin_eq, nI_add, nI_mul, qb_z, qb_t, qb_f, nI_ne0', Nat.reduceAdd, Bool.false_eq_true, if_false, if_true, true_and, and_true, Nat.reduceEqDiff, not_true_eq_false, not_false_eq_true, false_implies, true_implies, ite_true, ite_false, Bool.not_eq_false, Bool.not_eq_true]
    exact no2 (by rw [eZ, exx])
  | some x =>
    simp only [Option.isSome]
    simp (disch := omega) only [nI_leI, nI_ltI, nI_eq, nI_cl, qin_eq, nI_add, nI_mul, qb_z, qb_t, qb_f, nI_ne0', Nat.reduceAdd, Bool.false_eq_true, if_false, if_true, true_and, and_true, Nat.reduceEqDiff, not_true_eq_false, not_false_eq_true, false_implies, true_implies, ite_true, ite_false, Bool.not_eq_false, Bool.not_eq_true]
    refine qBI.fn (x_laid hT wT (nI t')) (by decide) ?_
    rw [zT_l ht]
    cases eyy : (aT A).2.1 t' with
    | none =>
      simp only [Option.isSome]
      simp (disch := omega) only [nI_leI, nI_ltI, nI_eq, nI_cl, qin_eq, nI_add, nI_mul, qb_z, qb_t, qb_f, nI_ne0', Nat.reduceAdd, Bool.false_eq_true, if_false, if_true, true_and, and_true, Nat.reduceEqDiff, not_true_eq_false, not_false_eq_true, false_implies, true_implies, ite_true, ite_false, Bool.not_eq_false, Bool.not_eq_true]
      exact no2 (by rw [eZ, exx, eyy])
    | some y =>
      simp only [Option.isSome]
      simp (disch := omega) only [nI_leI, nI_ltI, nI_eq, nI_cl, qin_eq, nI_add, nI_mul, qb_z, qb_t, qb_f, nI_ne0', Nat.reduceAdd, Bool.false_eq_true, if_false, if_true, true_and, and_true, Nat.reduceEqDiff, not_true_eq_false, not_false_eq_true, false_implies, true_implies, ite_true, ite_false, Bool.not_eq_false, Bool.not_eq_true]
      clear no2
      rw [exx, eyy] at eZ
      have eZ : zpw (aT A) (nI f') (nI p') (nI t') (nI a') (nI m') = if (aT A).1 f' ≠ (aT A).1 t' then 8 else if (p' : Int) + m' ≤ x ∧ (a' : Int) + m' ≤ y then 0 else 3 := eZ
      have x60 := (wT f' hf).2 x exx
      have y60 := (wT t' ht).2 y eyy
      refine qV.go 30 [89] ok_151 ?_
      simp only [qW_nop, qW_iconst, qW_bipush, qW_iloadn, qW_iload, qW_aloadn, qW_ifeq, qW_ifne, qW_iflt, qW_ifge, qW_getf, qW_cv1_0, qW_cv2_0, qW_cv3_0, qW_cv4_0, qW_cv6_2, qW_iret1, Nat.reduceAdd, Nat.reduceMul, Nat.reduceBEq, Nat.reduceEqDiff, Nat.reduceLT, Nat.reduceLeDiff, Nat.zero_le, nI_add, nI_mul, nI_cl, qin_eq, qofI, qlg_0, qlg_s, qls_i0, qls_r0, qls_l0, qls_1, qls_2, qkl_i, qkl_r, qkl_l, qkl_n, qIsI_i, qIsL_l, qIsR_r, qint_i, qil_i, qil_r, qil_l, qf4_0, qf4_1, qf4_2, qf4_3, qf2_0, qf2_1, qcs_n, qcs_i, qcs_r, qcs_l, qst_n, qst_c, qJ_0, qJ_st, qJ_go, qfl_I, qfl_Z, qfl_L, qfl_R, qrI_i, qrL_l, qrV_v, qRcv_0, qRcv_s, eq_self, true_and, and_true, true_or, or_true, false_and, and_false, false_or, or_false, ite_true, if_true, if_false, Bool.true_or, Bool.false_or, Bool.or_false, beq_self_eq_true, Bool.false_eq_true, bX11_pour_0, bX11_pour_36, bX11_pour_42, bX11_pour_64, bX11_pour_70, bX11_pour_89, bX11_pour_118, bX11_pour_124, kX11_pour_0, kX11_pour_36, kX11_pour_42, kX11_pour_64, kX11_pour_70, kX11_pour_89, kX11_pour_118, kX11_pour_124, qK_0, qR_0_0, qK_1, qR_0_1, qK_13, qR_0_2, qK_25, qR_0_3, qK_40, qR_0_4, qK_41, qR_0_5, qK_45, qR_0_6, qK_46, qR_0_7, qK_50, qR_0_8, qK_53, qR_0_9, qK_66, qR_0_10, qK_74, qR_0_11, qK_80, qR_0_12, qK_82, qR_0_14, qK_83, qR_0_15, qK_84, qK_46, qR_46_0, qK_47, qR_46_1, qK_48, qR_46_2, qK_49]
      refine qBI.fn (x_alikeT hT wT hf ht exx eyy) (by decide) ?_
      simp (disch := omega) only [nI_leI, nI_ltI, nI_eq, nI_cl, qin_eq, nI_add, nI_mul, qb_z, qb_t, qb_f, nI_ne0', Nat.reduceAdd, Bool.false_eq_true, if_false, if_true, true_and, and_true, Nat.reduceEqDiff, not_true_eq_false, not_false_eq_true, false_implies, true_implies, ite_true, ite_false, Bool.not_eq_false, Bool.not_eq_true]
      simp only [decide_eq_true_eq, decide_eq_false_iff_not]
      refine And.symm ⟨fun hs => ?_, fun hs => ?_⟩
      · exact bad 8 (by decide) (by decide) (by rw [eZ, if_pos hs])
      have eZ : zpw (aT A) (nI f') (nI p') (nI t') (nI a') (nI m') = if (p' : Int) + m' ≤ x ∧ (a' : Int) + m' ≤ y then 0 else 3 := by rw [eZ, if_neg (fun h => h hs)]
      have no3 : ¬ ((p' : Int) + m' ≤ x ∧ (a' : Int) + m' ≤ y) → qV 151 5 (.inl (zXCall σ (yPour A (nI f') (nI p') (nI t') (nI a') (nI m')))) 118 [some (qr 0), some (qi (nI f')), some (qi (nI p')), some (qi (nI t')), some (qi (nI a')), some (qi (nI m'))] [] σ := by
        intro h
        refine qV.go 30 [9999] ok_151 ?_
        simp only [qW_nop, qW_iconst, qW_bipush, qW_iloadn, qW_iload, qW_aloadn, qW_ifeq, qW_ifne, qW_iflt, qW_ifge, qW_getf, qW_cv1_0, qW_cv2_0, qW_cv3_0, qW_cv4_0, qW_cv6_2, qW_iret1, Nat.reduceAdd, Nat.reduceMul, Nat.reduceBEq, Nat.reduceEqDiff, Nat.reduceLT, Nat.reduceLeDiff, Nat.zero_le, nI_add, nI_mul, nI_cl, qin_eq, qofI, qlg_0, qlg_s, qls_i0, qls_r0, qls_l0, qls_1, qls_2, qkl_i, qkl_r, qkl_l, qkl_n, qIsI_i, qIsL_l, qIsR_r, qint_i, qil_i, qil_r, qil_l, qf4_0, qf4_1, qf4_2, qf4_3, qf2_0, qf2_1, qcs_n, qcs_i, qcs_r, qcs_l, qst_n, qst_c, qJ_0, qJ_st, qJ_go, qfl_I, qfl_Z, qfl_L, qfl_R, qrI_i, qrL_l, qrV_v, qRcv_0, qRcv_s, eq_self, true_and, and_true, true_or, or_true, false_and, and_false, false_or, or_false, ite_true, if_true, if_false, Bool.true_or, Bool.false_or, Bool.or_false, beq_self_eq_true, Bool.false_eq_true, bX11_pour_0, bX11_pour_36, bX11_pour_42, bX11_pour_64, bX11_pour_70, bX11_pour_89, bX11_pour_118, bX11_pour_124, kX11_pour_0, kX11_pour_36, kX11_pour_42, kX11_pour_64, kX11_pour_70, kX11_pour_89, kX11_pour_118, kX11_pour_124, qK_0, qR_0_0, qK_1, qR_0_1, qK_13, qR_0_2, qK_25, qR_0_3, qK_40, qR_0_4, qK_41, qR_0_5, qK_45, qR_0_6, qK_46, qR_0_7, qK_50, qR_0_8, qK_53, qR_0_9, qK_66, qR_0_10, qK_74, qR_0_11, qK_80, qR_0_12, qK_82, qR_0_14, qK_83, qR_0_15, qK_84]
        exact bad 3 (by decide) (by decide) (by rw [eZ, if_neg h])
      refine qV.go 30 [118] ok_151 ?_
      simp only [qW_nop, qW_iconst, qW_bipush, qW_iloadn, qW_iload, qW_aloadn, qW_ifeq, qW_ifne, qW_iflt, qW_ifge, qW_getf, qW_cv1_0, qW_cv2_0, qW_cv3_0, qW_cv4_0, qW_cv6_2, qW_iret1, Nat.reduceAdd, Nat.reduceMul, Nat.reduceBEq, Nat.reduceEqDiff, Nat.reduceLT, Nat.reduceLeDiff, Nat.zero_le, nI_add, nI_mul, nI_cl, qin_eq, qofI, qlg_0, qlg_s, qls_i0, qls_r0, qls_l0, qls_1, qls_2, qkl_i, qkl_r, qkl_l, qkl_n, qIsI_i, qIsL_l, qIsR_r, qint_i, qil_i, qil_r, qil_l, qf4_0, qf4_1, qf4_2, qf4_3, qf2_0, qf2_1, qcs_n, qcs_i, qcs_r, qcs_l, qst_n, qst_c, qJ_0, qJ_st, qJ_go, qfl_I, qfl_Z, qfl_L, qfl_R, qrI_i, qrL_l, qrV_v, qRcv_0, qRcv_s, eq_self, true_and, and_true, true_or, or_true, false_and, and_false, false_or, or_false, ite_true, if_true, if_false, Bool.true_or, Bool.false_or, Bool.or_false, beq_self_eq_true, Bool.false_eq_true, bX11_pour_0, bX11_pour_36, bX11_pour_42, bX11_pour_64, bX11_pour_70, bX11_pour_89, bX11_pour_118, bX11_pour_124, kX11_pour_0, kX11_pour_36, kX11_pour_42, kX11_pour_64, kX11_pour_70, kX11_pour_89, kX11_pour_118, kX11_pour_124, qK_0, qR_0_0, qK_1, qR_0_1, qK_13, qR_0_2, qK_25, qR_0_3, qK_40, qR_0_4, qK_41, qR_0_5, qK_45, qR_0_6, qK_46, qR_0_7, qK_50, qR_0_8, qK_53, qR_0_9, qK_66, qR_0_10, qK_74, qR_0_11, qK_80, qR_0_12, qK_82, qR_0_14, qK_83, qR_0_15, qK_84, qK_46, qR_46_0, qK_47, qR_46_1, qK_48, qR_46_2, qK_49]
      refine qBI.fn (x_holds hT wT _ _ _) (by decide) ?_
      rw [zhold_n hf hp hm exx]
      simp (disch := omega) only [nI_leI, nI_ltI, nI_eq, nI_cl, qin_eq, nI_add, nI_mul, qb_z, qb_t, qb_f, nI_ne0', Nat.reduceAdd, Bool.false_eq_true, if_false, if_true, true_and, and_true, Nat.reduceEqDiff, not_true_eq_false, not_false_eq_true, false_implies, true_implies, ite_true, ite_false, Bool.not_eq_false, Bool.not_eq_true]
      simp only [decide_eq_true_eq, decide_eq_false_iff_not]
      refine ⟨fun h => no3 (by omega), fun h6 => ?_⟩
      refine qBI.fn (x_holds hT wT _ _ _) (by decide) ?_
      rw [zhold_n ht ha hm eyy]
      simp (disch := omega) only [nI_leI, nI_ltI, nI_eq, nI_cl, qin_eq, nI_add, nI_mul, qb_z, qb_t, qb_f, nI_ne0', Nat.reduceAdd, Bool.false_eq_true, if_false, if_true, true_and, and_true, Nat.reduceEqDiff, not_true_eq_false, not_false_eq_true, false_implies, true_implies, ite_true, ite_false, Bool.not_eq_false, Bool.not_eq_true]
      simp only [decide_eq_true_eq, decide_eq_false_iff_not]
      refine And.symm ⟨fun h => no3 (by omega), fun h7 => ?_⟩
      have eY : yPour A (nI f') (nI p') (nI t') (nI a') (nI m') = yT (sT A (zTpour (aT A) f' p' t' a' m')) := by
        have e0 : zpw (aT A) (nI f') (nI p') (nI t') (nI a') (nI m') = 0 := by rw [eZ, if_pos ⟨h6, h7⟩]
        unfold yPour
        rw [if_pos e0, nI_tn (by omega), nI_tn (by omega), nI_tn (by omega), nI_tn (by omega), nI_tn (by omega)]
      rw [eY]
      refine qBV.of (x_move hT wT hf ht exx eyy (by omega) (by omega)) (by decide) (fun σ1 g1 => ?_)
      obtain ⟨T1, f1⟩ := g1
      exact g_grant (hA.t hW (f1.wk (fun a j h => False.elim h) (fun a j h => h)) T1) (hW.t (fun b hb => wT b hb)) (zCls.g f1 (fun a j h => False.elim h) (fun a j h => by omega)) (by decide) rfl
