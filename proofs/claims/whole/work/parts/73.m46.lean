/-! the reference's calls: what fits, whom to ask, rests -/
theorem zPf_s (a j : Nat) (h : zPf a j) : 139 ≤ a ∧ ¬ zKp a j := by unfold zPf at h; unfold zKp; omega
theorem zwrong_lt (C : zC) (T : zT) (b t n : Int32) : zwrong C T b t n < 10 := by
  unfold zwrong
  split
  · omega
  · split
    · omega
    · split
      · omega
      · split <;> omega
theorem zcount_pos {p : Nat → Bool} : ∀ n, zcount p n ≠ 0 → ∃ i, i < n ∧ p i = true
  | 0, h => absurd rfl h
  | n + 1, h => by
    simp only [zcount] at h
    by_cases e : p n = true
    · exact ⟨n, by omega, e⟩
    · rw [if_neg e] at h
      obtain ⟨i, h1, h2⟩ := zcount_pos n h
      exact ⟨i, by omega, h2⟩
set_option maxRecDepth 20000 in
theorem M_fits {σ : qSg} {A : zA} (hA : zMA σ A) (hW : zAW A) (b t n : Int32) : qCI 9 336 [qr 139, qi b, qi t, qi n] σ (zCall σ (yFits A b t n)) := by
  have hM := hA.m
  have hw := hW.w
  have wb := hw.1
  have hT := hA.2.2.2.1
  have wT := hW.2.2.2.1
  have h5 : aC A 0 5 ≤ 9999 := hW.1.2.1
  have hl := zwrong_lt (aC A) (aT A) b t n
  refine qCI.of [some (qr 139), some (qi b), some (qi t), some (qi n), none] ok_336 (Nat.le_of_ble_eq_true rfl) rfl ?_
  refine qV.go 30 [9999] ok_336 ?_
  simp only [qW_nop, qW_iloadn, qW_iload, qW_aloadn, qW_istore, qW_ifle, qW_getf, qW_cv2_0, qW_cv4_0, qW_cv4_2, qW_iret0, Nat.reduceAdd, Nat.reduceMul, Nat.reduceBEq, Nat.reduceEqDiff, Nat.reduceLT, Nat.reduceLeDiff, Nat.zero_le, nI_add, nI_mul, nI_cl, qin_eq, qofI, qlg_0, qlg_s, qls_i0, qls_r0, qls_l0, qls_1, qls_2, qkl_i, qkl_r, qkl_l, qkl_n, qIsI_i, qIsL_l, qIsR_r, qint_i, qil_i, qil_r, qil_l, qf4_0, qf4_1, qf4_2, qf4_3, qf2_0, qf2_1, qcs_n, qcs_i, qcs_r, qcs_l, qst_n, qst_c, qJ_0, qJ_st, qJ_go, qfl_I, qfl_Z, qfl_L, qfl_R, qrI_i, qrL_l, qrV_v, qRcv_0, qRcv_s, eq_self, true_and, and_true, true_or, or_true, false_and, and_false, false_or, or_false, ite_true, if_true, if_false, Bool.true_or, Bool.false_or, Bool.or_false, beq_self_eq_true, Bool.false_eq_true, bX12_fits_0, bX12_fits_21, kX12_fits_0, kX12_fits_21, qK_139, qR_139_0, qK_140, qR_139_1, qK_141, qR_139_5, qK_142, qR_139_6, qK_143, qR_139_7, qK_144, qR_139_8, qK_145, qR_139_9, qK_146, qR_139_21, qK_147, qR_139_25, qK_148, qR_139_30, qK_149, qR_139_31, qK_150, qR_139_33, qK_151, qR_139_34, qK_152, qR_139_35, qK_153, qR_139_36, qK_154, qR_139_39, qK_155, qR_139_40, qK_156, qR_139_41, qK_157]
  refine qBI.fn (m_wrongSeen hM hw hT wT b t n) (by decide) ?_
  rw [qle0, nI_t (by omega)]
  refine ⟨fun g => ?_, fun g => ?_⟩
  · have g0 : zwrong (aC A) (aT A) b t n = 0 := by omega
    have eY : yFits A b t n = yOk A (nI (zcount (fun i => zfitA A b t n (i + 1)) 30)) := by unfold yFits; rw [if_neg (by omega)]
    rw [eY]
    unfold zfitA
    obtain ⟨b', t', n', m, hb, rfl, ht, rfl, hn, rfl, hm, hm2, hv⟩ := zwrong_ok g0
    rw [nI_tn (by omega), nI_tn (by omega), nI_tn (by omega)]
    refine qBV.of (m_laysFits hM hw hT (by omega) hb ht hn hm hm2 ((wT t' ht).2 m hm) hv) (by decide) (fun σ1 h1 => ?_)
    obtain ⟨z1, f1⟩ := h1
    have S := hA.scr hW f1 zPf_s
    rw [z1.2]
    exact e_ok S.1 hW S.2 (by decide) rfl
  · refine e_no hA hW zRef.rf (by decide) ?_
    unfold yFits
    rw [if_pos (by omega)]
    rfl
theorem zgrt_is (p : Nat → Bool) : ∀ n v, 1 ≤ v → v ≤ n → p v = true → (∀ j, v < j → j ≤ n → p j = false) → zgrt p n = v
  | 0, v, h1, h2, _, _ => by omega
  | n + 1, v, h1, h2, h3, h4 => by
    simp only [zgrt]
    by_cases e : v = n + 1
    · subst e; rw [if_pos h3]
    · rw [if_neg (by rw [h4 (n + 1) (by omega) (by omega)]; decide)]
      exact zgrt_is p n v h1 (by omega) h3 fun j j1 j2 => h4 j j1 (by omega)
set_option maxRecDepth 20000 in
theorem M_fitsAt {σ : qSg} {A : zA} (hA : zMA σ A) (hW : zAW A) (b t n w : Int32) : qCI 9 337 [qr 139, qi b, qi t, qi n, qi w] σ (zCall σ (yFitsAt A b t n w)) := by
  have hM := hA.m
  have hw := hW.w
  have wb := hw.1
  have hT := hA.2.2.2.1
  have wT := hW.2.2.2.1
  have h5 : aC A 0 5 ≤ 9999 := hW.1.2.1
  have hl := zwrong_lt (aC A) (aT A) b t n
  refine qCI.of [some (qr 139), some (qi b), some (qi t), some (qi n), some (qi w), none, none] ok_337 (Nat.le_of_ble_eq_true rfl) rfl ?_
  refine qV.go 30 [11, 22] ok_337 ?_
  simp only [qW_nop, qW_iconst, qW_iconstm, qW_bipush, qW_iloadn, qW_iload, qW_aloadn, qW_istore, qW_iadd, qW_ifne, qW_iflt, qW_ifle, qW_icle, qW_goto, qW_getf, qW_bald, qW_cv2_0, qW_cv4_0, qW_cv4_2, qW_iret0, Nat.reduceAdd, Nat.reduceMul, Nat.reduceBEq, Nat.reduceEqDiff, Nat.reduceLT, Nat.reduceLeDiff, Nat.zero_le, nI_add, nI_mul, nI_cl, qin_eq, qofI, qlg_0, qlg_s, qls_i0, qls_r0, qls_l0, qls_1, qls_2, qkl_i, qkl_r, qkl_l, qkl_n, qIsI_i, qIsL_l, qIsR_r, qint_i, qil_i, qil_r, qil_l, qf4_0, qf4_1, qf4_2, qf4_3, qf2_0, qf2_1, qcs_n, qcs_i, qcs_r, qcs_l, qst_n, qst_c, qJ_0, qJ_st, qJ_go, qfl_I, qfl_Z, qfl_L, qfl_R, qrI_i, qrL_l, qrV_v, qRcv_0, qRcv_s, eq_self, true_and, and_true, true_or, or_true, false_and, and_false, false_or, or_false, ite_true, if_true, if_false, Bool.true_or, Bool.false_or, Bool.or_false, beq_self_eq_true, Bool.false_eq_true, bX12_fitsAt_0, bX12_fitsAt_11, bX12_fitsAt_15, bX12_fitsAt_22, bX12_fitsAt_36, bX12_fitsAt_57, bX12_fitsAt_66, bX12_fitsAt_68, bX12_fitsAt_70, bX12_fitsAt_91, bX12_fitsAt_92, bX12_fitsAt_98, kX12_fitsAt_0, kX12_fitsAt_11, kX12_fitsAt_15, kX12_fitsAt_22, kX12_fitsAt_36, kX12_fitsAt_57, kX12_fitsAt_66, kX12_fitsAt_68, kX12_fitsAt_70, kX12_fitsAt_91, kX12_fitsAt_92, kX12_fitsAt_98, qK_139, qR_139_0, qK_140, qR_139_1, qK_141, qR_139_5, qK_142, qR_139_6, qK_143, qR_139_7, qK_144, qR_139_8, qK_145, qR_139_9, qK_146, qR_139_21, qK_147, qR_139_25, qK_148, qR_139_30, qK_149, qR_139_31, qK_150, qR_139_33, qK_151, qR_139_34, qK_152, qR_139_35, qK_153, qR_139_36, qK_154, qR_139_39, qK_155, qR_139_40, qK_156, qR_139_41, qK_157]
  have no : ∀ k, k < 10 → k ≠ 0 → yFitsAt A b t n w = yNo A k → qV 337 9 (.inl (zCall σ (yFitsAt A b t n w))) 22 [some (qr 139), some (qi b), some (qi t), some (qi n), some (qi w), none, none] [qi (nI k)] σ := by
    intro k hk k0 e
    refine qV.go 30 [36] ok_337 ?_
    simp only [qW_nop, qW_iconst, qW_iconstm, qW_bipush, qW_iloadn, qW_iload, qW_aloadn, qW_istore, qW_iadd, qW_ifne, qW_iflt, qW_ifle, qW_icle, qW_goto, qW_getf, qW_bald, qW_cv2_0, qW_cv4_0, qW_cv4_2, qW_iret0, Nat.reduceAdd, Nat.reduceMul, Nat.reduceBEq, Nat.reduceEqDiff, Nat.reduceLT, Nat.reduceLeDiff, Nat.zero_le, nI_add, nI_mul, nI_cl, qin_eq, qofI, qlg_0, qlg_s, qls_i0, qls_r0, qls_l0, qls_1, qls_2, qkl_i, qkl_r, qkl_l, qkl_n, qIsI_i, qIsL_l, qIsR_r, qint_i, qil_i, qil_r, qil_l, qf4_0, qf4_1, qf4_2, qf4_3, qf2_0, qf2_1, qcs_n, qcs_i, qcs_r, qcs_l, qst_n, qst_c, qJ_0, qJ_st, qJ_go, qfl_I, qfl_Z, qfl_L, qfl_R, qrI_i, qrL_l, qrV_v, qRcv_0, qRcv_s, eq_self, true_and, and_true, true_or, or_true, false_and, and_false, false_or, or_false, ite_true, if_true, if_false, Bool.true_or, Bool.false_or, Bool.or_false, beq_self_eq_true, Bool.false_eq_true, bX12_fitsAt_0, bX12_fitsAt_11, bX12_fitsAt_15, bX12_fitsAt_22, bX12_fitsAt_36, bX12_fitsAt_57, bX12_fitsAt_66, bX12_fitsAt_68, bX12_fitsAt_70, bX12_fitsAt_91, bX12_fitsAt_92, bX12_fitsAt_98, kX12_fitsAt_0, kX12_fitsAt_11, kX12_fitsAt_15, kX12_fitsAt_22, kX12_fitsAt_36, kX12_fitsAt_57, kX12_fitsAt_66, kX12_fitsAt_68, kX12_fitsAt_70, kX12_fitsAt_91, kX12_fitsAt_92, kX12_fitsAt_98, qK_139, qR_139_0, qK_140, qR_139_1, qK_141, qR_139_5, qK_142, qR_139_6, qK_143, qR_139_7, qK_144, qR_139_8, qK_145, qR_139_9, qK_146, qR_139_21, qK_147, qR_139_25, qK_148, qR_139_30, qK_149, qR_139_31, qK_150, qR_139_33, qK_151, qR_139_34, qK_152, qR_139_35, qK_153, qR_139_36, qK_154, qR_139_39, qK_155, qR_139_40, qK_156, qR_139_41, qK_157]
    rw [qle0, nI_t (by omega)]
    refine ⟨fun h => by omega, fun _ => ?_⟩
    exact e_no hA hW zRef.rf (by decide) (by rw [e]; rfl)
  have bad : zih w 0 1 = false → qV 337 9 (.inl (zCall σ (yFitsAt A b t n w))) 11 [some (qr 139), some (qi b), some (qi t), some (qi n), some (qi w), none, none] [] σ := by
    intro h
    refine qV.go 30 [22] ok_337 ?_
    simp only [qW_nop, qW_iconst, qW_iconstm, qW_bipush, qW_iloadn, qW_iload, qW_aloadn, qW_istore, qW_iadd, qW_ifne, qW_iflt, qW_ifle, qW_icle, qW_goto, qW_getf, qW_bald, qW_cv2_0, qW_cv4_0, qW_cv4_2, qW_iret0, Nat.reduceAdd, Nat.reduceMul, Nat.reduceBEq, Nat.reduceEqDiff, Nat.reduceLT, Nat.reduceLeDiff, Nat.zero_le, nI_add, nI_mul, nI_cl, qin_eq, qofI, qlg_0, qlg_s, qls_i0, qls_r0, qls_l0, qls_1, qls_2, qkl_i, qkl_r, qkl_l, qkl_n, qIsI_i, qIsL_l, qIsR_r, qint_i, qil_i, qil_r, qil_l, qf4_0, qf4_1, qf4_2, qf4_3, qf2_0, qf2_1, qcs_n, qcs_i, qcs_r, qcs_l, qst_n, qst_c, qJ_0, qJ_st, qJ_go, qfl_I, qfl_Z, qfl_L, qfl_R, qrI_i, qrL_l, qrV_v, qRcv_0, qRcv_s, eq_self, true_and, and_true, true_or, or_true, false_and, and_false, false_or, or_false, ite_true, if_true, if_false, Bool.true_or, Bool.false_or, Bool.or_false, beq_self_eq_true, Bool.false_eq_true, bX12_fitsAt_0, bX12_fitsAt_11, bX12_fitsAt_15, bX12_fitsAt_22, bX12_fitsAt_36, bX12_fitsAt_57, bX12_fitsAt_66, bX12_fitsAt_68, bX12_fitsAt_70, bX12_fitsAt_91, bX12_fitsAt_92, bX12_fitsAt_98, kX12_fitsAt_0, kX12_fitsAt_11, kX12_fitsAt_15, kX12_fitsAt_22, kX12_fitsAt_36, kX12_fitsAt_57, kX12_fitsAt_66, kX12_fitsAt_68, kX12_fitsAt_70, kX12_fitsAt_91, kX12_fitsAt_92, kX12_fitsAt_98, qK_139, qR_139_0, qK_140, qR_139_1, qK_141, qR_139_5, qK_142, qR_139_6, qK_143, qR_139_7, qK_144, qR_139_8, qK_145, qR_139_9, qK_146, qR_139_21, qK_147, qR_139_25, qK_148, qR_139_30, qK_149, qR_139_31, qK_150, qR_139_33, qK_151, qR_139_34, qK_152, qR_139_35, qK_153, qR_139_36, qK_154, qR_139_39, qK_155, qR_139_40, qK_156, qR_139_41, qK_157]
    exact no 1 (by omega) (by omega) (by unfold yFitsAt; rw [if_pos h])
  simp only [z0i, qlt, qle, nI_t (show 1 < 2147483648 by decide)]
  refine ⟨fun g => bad (by simp [zih]; omega), fun g => ⟨fun g2 => ?_, fun g2 => bad (by simp [zih]; omega)⟩⟩
  have hz : zih w 0 1 = true := by simp [zih]; omega
  obtain ⟨v, -, hv, rfl⟩ := zih_nI hz
  refine qBI.fn (m_wrongSeen hM hw hT wT b t n) (by decide) ?_
  by_cases g0 : zwrong (aC A) (aT A) b t n = 0
  · have eY : yFitsAt A b t n (nI v) = if zcount (fun i => zfitA A b t n (i + 1)) 30 = 0 then yNo A 6 else yOk A (nI (if v = 0 then zlst (zfitA A b t n) 30 1 else zgrt (zfitA A b t n) 30)) := by
      unfold yFitsAt
      rw [if_neg (by rw [hz]; decide), if_neg (by omega), nI_tn (by omega)]
    rw [eY, g0]
    unfold zfitA
    clear no bad eY hl
    obtain ⟨b', t', n', m, hb, rfl, ht, rfl, hn, rfl, hm, hm2, hv2⟩ := zwrong_ok g0
    rw [nI_tn (by omega), nI_tn (by omega), nI_tn (by omega)]
    refine qV.go 30 [36] ok_337 ?_
    simp only [qW_nop, qW_iconst, qW_iconstm, qW_bipush, qW_iloadn, qW_iload, qW_aloadn, qW_istore, qW_iadd, qW_ifne, qW_iflt, qW_ifle, qW_icle, qW_goto, qW_getf, qW_bald, qW_cv2_0, qW_cv4_0, qW_cv4_2, qW_iret0, Nat.reduceAdd, Nat.reduceMul, Nat.reduceBEq, Nat.reduceEqDiff, Nat.reduceLT, Nat.reduceLeDiff, Nat.zero_le, nI_add, nI_mul, nI_cl, qin_eq, qofI, qlg_0, qlg_s, qls_i0, qls_r0, qls_l0, qls_1, qls_2, qkl_i, qkl_r, qkl_l, qkl_n, qIsI_i, qIsL_l, qIsR_r, qint_i, qil_i, qil_r, qil_l, qf4_0, qf4_1, qf4_2, qf4_3, qf2_0, qf2_1, qcs_n, qcs_i, qcs_r, qcs_l, qst_n, qst_c, qJ_0, qJ_st, qJ_go, qfl_I, qfl_Z, qfl_L, qfl_R, qrI_i, qrL_l, qrV_v, qRcv_0, qRcv_s, eq_self, true_and, and_true, true_or, or_true, false_and, and_false, false_or, or_false, ite_true, if_true, if_false, Bool.true_or, Bool.false_or, Bool.or_false, beq_self_eq_true, Bool.false_eq_true, bX12_fitsAt_0, bX12_fitsAt_11, bX12_fitsAt_15, bX12_fitsAt_22, bX12_fitsAt_36, bX12_fitsAt_57, bX12_fitsAt_66, bX12_fitsAt_68, bX12_fitsAt_70, bX12_fitsAt_91, bX12_fitsAt_92, bX12_fitsAt_98, kX12_fitsAt_0, kX12_fitsAt_11, kX12_fitsAt_15, kX12_fitsAt_22, kX12_fitsAt_36, kX12_fitsAt_57, kX12_fitsAt_66, kX12_fitsAt_68, kX12_fitsAt_70, kX12_fitsAt_91, kX12_fitsAt_92, kX12_fitsAt_98, qK_139, qR_139_0, qK_140, qR_139_1, qK_141, qR_139_5, qK_142, qR_139_6, qK_143, qR_139_7, qK_144, qR_139_8, qK_145, qR_139_9, qK_146, qR_139_21, qK_147, qR_139_25, qK_148, qR_139_30, qK_149, qR_139_31, qK_150, qR_139_33, qK_151, qR_139_34, qK_152, qR_139_35, qK_153, qR_139_36, qK_154, qR_139_39, qK_155, qR_139_40, qK_156, qR_139_41, qK_157]
    rw [qle0, nI_t (by omega)]
    refine ⟨fun _ => ?_, fun h => by omega⟩
    refine qV.go 30 [70] ok_337 ?_
    simp only [qW_nop, qW_iconst, qW_iconstm, qW_bipush, qW_iloadn, qW_iload, qW_aloadn, qW_istore, qW_iadd, qW_ifne, qW_iflt, qW_ifle, qW_icle, qW_goto, qW_getf, qW_bald, qW_cv2_0, qW_cv4_0, qW_cv4_2, qW_iret0, Nat.reduceAdd, Nat.reduceMul, Nat.reduceBEq, Nat.reduceEqDiff, Nat.reduceLT, Nat.reduceLeDiff, Nat.zero_le, nI_add, nI_mul, nI_cl, qin_eq, qofI, qlg_0, qlg_s, qls_i0, qls_r0, qls_l0, qls_1, qls_2, qkl_i, qkl_r, qkl_l, qkl_n, qIsI_i, qIsL_l, qIsR_r, qint_i, qil_i, qil_r, qil_l, qf4_0, qf4_1, qf4_2, qf4_3, qf2_0, qf2_1, qcs_n, qcs_i, qcs_r, qcs_l, qst_n, qst_c, qJ_0, qJ_st, qJ_go, qfl_I, qfl_Z, qfl_L, qfl_R, qrI_i, qrL_l, qrV_v, qRcv_0, qRcv_s, eq_self, true_and, and_true, true_or, or_true, false_and, and_false, false_or, or_false, ite_true, if_true, if_false, Bool.true_or, Bool.false_or, Bool.or_false, beq_self_eq_true, Bool.false_eq_true, bX12_fitsAt_0, bX12_fitsAt_11, bX12_fitsAt_15, bX12_fitsAt_22, bX12_fitsAt_36, bX12_fitsAt_57, bX12_fitsAt_66, bX12_fitsAt_68, bX12_fitsAt_70, bX12_fitsAt_91, bX12_fitsAt_92, bX12_fitsAt_98, kX12_fitsAt_0, kX12_fitsAt_11, kX12_fitsAt_15, kX12_fitsAt_22, kX12_fitsAt_36, kX12_fitsAt_57, kX12_fitsAt_66, kX12_fitsAt_68, kX12_fitsAt_70, kX12_fitsAt_91, kX12_fitsAt_92, kX12_fitsAt_98, qK_139, qR_139_0, qK_140, qR_139_1, qK_141, qR_139_5, qK_142, qR_139_6, qK_143, qR_139_7, qK_144, qR_139_8, qK_145, qR_139_9, qK_146, qR_139_21, qK_147, qR_139_25, qK_148, qR_139_30, qK_149, qR_139_31, qK_150, qR_139_33, qK_151, qR_139_34, qK_152, qR_139_35, qK_153, qR_139_36, qK_154, qR_139_39, qK_155, qR_139_40, qK_156, qR_139_41, qK_157]
    refine qBV.of (m_laysFits hM hw hT (by omega) hb ht hn hm hm2 ((wT t' ht).2 m hm) hv2) (by decide) (fun σ1 h1 => ?_)
    obtain ⟨z1, f1⟩ := h1
    have S := hA.scr hW f1 zPf_s
    rw [z1.2]
    have hF : ∀ p, 1 ≤ p → p ≤ 30 → σ1.1 150 p = qb (zfit (aC A) (aT A) b' t' n' p) := fun p h1 h2 => (z1.1 p h1 h2).1
    generalize hFF : zfit (aC A) (aT A) b' t' n' = F at hF ⊢
    have hc := zcount_le (fun i => F (i + 1)) 30
    simp (disch := omega) only [nI_leI, nI_ltI, nI_eq, nI_cl, qin_eq, nI_add, nI_mul, qb_z, qb_t, qb_f, nI_ne0', Nat.reduceAdd, Bool.false_eq_true, if_false, if_true, true_and, and_true, Nat.reduceEqDiff, not_true_eq_false, not_false_eq_true, false_implies, true_implies, ite_true, ite_false]
    refine ⟨fun h => ?_, fun h => ?_⟩
    · rw [if_neg h]
      obtain ⟨i, i1, i2⟩ := zcount_pos 30 h
      refine ⟨fun hv => ?_, fun hv => ?_⟩
      · rw [if_neg hv]
        refine qdown (n := 29) (P := fun c => (∀ j, 30 - c < j → j ≤ 30 → F j = false) → qV 337 9 (.inl (zCall σ (yOk A (nI (zgrt F 30))))) 70 [some (qr 139), some (qi (nI b')), some (qi (nI t')), some (qi (nI n')), some (qi (nI v)), some (qi (nI 0)), some (qi (nI (30 - c)))] [] σ1) (fun c hc ih => ?_) 0 (Nat.zero_le _) (fun j j1 j2 => by omega)
        intro hn
        refine qV.go 30 [70, 98] ok_337 ?_
        simp only [qW_nop, qW_iconst, qW_iconstm, qW_bipush, qW_iloadn, qW_iload, qW_aloadn, qW_istore, qW_iadd, qW_ifne, qW_iflt, qW_ifle, qW_icle, qW_goto, qW_getf, qW_bald, qW_cv2_0, qW_cv4_0, qW_cv4_2, qW_iret0, Nat.reduceAdd, Nat.reduceMul, Nat.reduceBEq, Nat.reduceEqDiff, Nat.reduceLT, Nat.reduceLeDiff, Nat.zero_le, nI_add, nI_mul, nI_cl, qin_eq, qofI, qlg_0, qlg_s, qls_i0, qls_r0, qls_l0, qls_1, qls_2, qkl_i, qkl_r, qkl_l, qkl_n, qIsI_i, qIsL_l, qIsR_r, qint_i, qil_i, qil_r, qil_l, qf4_0, qf4_1, qf4_2, qf4_3, qf2_0, qf2_1, qcs_n, qcs_i, qcs_r, qcs_l, qst_n, qst_c, qJ_0, qJ_st, qJ_go, qfl_I, qfl_Z, qfl_L, qfl_R, qrI_i, qrL_l, qrV_v, qRcv_0, qRcv_s, eq_self, true_and, and_true, true_or, or_true, false_and, and_false, false_or, or_false, ite_true, if_true, if_false, Bool.true_or, Bool.false_or, Bool.or_false, beq_self_eq_true, Bool.false_eq_true, bX12_fitsAt_0, bX12_fitsAt_11, bX12_fitsAt_15, bX12_fitsAt_22, bX12_fitsAt_36, bX12_fitsAt_57, bX12_fitsAt_66, bX12_fitsAt_68, bX12_fitsAt_70, bX12_fitsAt_91, bX12_fitsAt_92, bX12_fitsAt_98, kX12_fitsAt_0, kX12_fitsAt_11, kX12_fitsAt_15, kX12_fitsAt_22, kX12_fitsAt_36, kX12_fitsAt_57, kX12_fitsAt_66, kX12_fitsAt_68, kX12_fitsAt_70, kX12_fitsAt_91, kX12_fitsAt_92, kX12_fitsAt_98, qK_139, qR_139_0, qK_140, qR_139_1, qK_141, qR_139_5, qK_142, qR_139_6, qK_143, qR_139_7, qK_144, qR_139_8, qK_145, qR_139_9, qK_146, qR_139_21, qK_147, qR_139_25, qK_148, qR_139_30, qK_149, qR_139_31, qK_150, qR_139_33, qK_151, qR_139_34, qK_152, qR_139_35, qK_153, qR_139_36, qK_154, qR_139_39, qK_155, qR_139_40, qK_156, qR_139_41, qK_157]
        simp (disch := omega) only [nI_leI, nI_ltI, nI_eq, nI_cl, qin_eq, nI_add, nI_mul, qb_z, qb_t, qb_f, nI_ne0', Nat.reduceAdd, Bool.false_eq_true, if_false, if_true, true_and, and_true, Nat.reduceEqDiff, not_true_eq_false, not_false_eq_true, false_implies, true_implies, ite_true, ite_false]
        rw [hF _ (by omega) (by omega)]
        simp (disch := omega) only [nI_leI, nI_ltI, nI_eq, nI_cl, qin_eq, nI_add, nI_mul, qb_z, qb_t, qb_f, nI_ne0', Nat.reduceAdd, Bool.false_eq_true, if_false, if_true, true_and, and_true, Nat.reduceEqDiff, not_true_eq_false, not_false_eq_true, false_implies, true_implies, ite_true, ite_false]
        by_cases e : F (30 - c) = true
        · rw [e]
          refine ⟨fun _ => ?_, fun hh => by cases hh⟩
          refine qV.go 30 [9999] ok_337 ?_
          simp only [qW_nop, qW_iconst, qW_iconstm, qW_bipush, qW_iloadn, qW_iload, qW_aloadn, qW_istore, qW_iadd, qW_ifne, qW_iflt, qW_ifle, qW_icle, qW_goto, qW_getf, qW_bald, qW_cv2_0, qW_cv4_0, qW_cv4_2, qW_iret0, Nat.reduceAdd, Nat.reduceMul, Nat.reduceBEq, Nat.reduceEqDiff, Nat.reduceLT, Nat.reduceLeDiff, Nat.zero_le, nI_add, nI_mul, nI_cl, qin_eq, qofI, qlg_0, qlg_s, qls_i0, qls_r0, qls_l0, qls_1, qls_2, qkl_i, qkl_r, qkl_l, qkl_n, qIsI_i, qIsL_l, qIsR_r, qint_i, qil_i, qil_r, qil_l, qf4_0, qf4_1, qf4_2, qf4_3, qf2_0, qf2_1, qcs_n, qcs_i, qcs_r, qcs_l, qst_n, qst_c, qJ_0, qJ_st, qJ_go, qfl_I, qfl_Z, qfl_L, qfl_R, qrI_i, qrL_l, qrV_v, qRcv_0, qRcv_s, eq_self, true_and, and_true, true_or, or_true, false_and, and_false, false_or, or_false, ite_true, if_true, if_false, Bool.true_or, Bool.false_or, Bool.or_false, beq_self_eq_true, Bool.false_eq_true, bX12_fitsAt_0, bX12_fitsAt_11, bX12_fitsAt_15, bX12_fitsAt_22, bX12_fitsAt_36, bX12_fitsAt_57, bX12_fitsAt_66, bX12_fitsAt_68, bX12_fitsAt_70, bX12_fitsAt_91, bX12_fitsAt_92, bX12_fitsAt_98, kX12_fitsAt_0, kX12_fitsAt_11, kX12_fitsAt_15, kX12_fitsAt_22, kX12_fitsAt_36, kX12_fitsAt_57, kX12_fitsAt_66, kX12_fitsAt_68, kX12_fitsAt_70, kX12_fitsAt_91, kX12_fitsAt_92, kX12_fitsAt_98, qK_139, qR_139_0, qK_140, qR_139_1, qK_141, qR_139_5, qK_142, qR_139_6, qK_143, qR_139_7, qK_144, qR_139_8, qK_145, qR_139_9, qK_146, qR_139_21, qK_147, qR_139_25, qK_148, qR_139_30, qK_149, qR_139_31, qK_150, qR_139_33, qK_151, qR_139_34, qK_152, qR_139_35, qK_153, qR_139_36, qK_154, qR_139_39, qK_155, qR_139_40, qK_156, qR_139_41, qK_157]
          exact e_ok S.1 hW S.2 (by decide) (by rw [zgrt_is F 30 (30 - c) (by omega) (by omega) e hn]; rfl)
        · have e : F (30 - c) = false := by simpa using e
          have hlt : c < 29 := by
            rcases Nat.lt_or_ge c 29 with q | q
            · exact q
            · have e1 : F (i + 1) = false := by
                by_cases ei : i = 0
                · subst ei
                  have : 30 - c = 0 + 1 := by omega
                  rw [← this]; exact e
                · exact hn _ (by omega) (by omega)
              rw [i2] at e1; cases e1
          rw [e]
          refine ⟨fun hh => absurd rfl hh, fun _ => ⟨fun _ => ?_, fun hh => absurd hh hv⟩⟩
          have := ih hlt (fun j j1 j2 => by
            by_cases ej : j = 30 - c
            · rw [ej]; exact e
            · exact hn j (by omega) j2)
          have e2 : nI (30 - c) + iI (-1) = nI (30 - (c + 1)) := by
            rw [iI_nat, iI_nat, iI_add]
            congr 1
            omega
          rw [e2]
          exact this
      · rw [if_pos hv]
        subst hv
        refine qdown (n := 29) (P := fun c => (∀ j, 1 ≤ j → j < c + 1 → F j = false) → qV 337 9 (.inl (zCall σ (yOk A (nI (zlst F 30 1))))) 70 [some (qr 139), some (qi (nI b')), some (qi (nI t')), some (qi (nI n')), some (qi (nI 0)), some (qi (nI 0)), some (qi (nI (c + 1)))] [] σ1) (fun c hc ih => ?_) 0 (Nat.zero_le _) (fun j j1 j2 => by omega)
        intro hn
        refine qV.go 30 [70, 98] ok_337 ?_
        simp only [qW_nop, qW_iconst, qW_iconstm, qW_bipush, qW_iloadn, qW_iload, qW_aloadn, qW_istore, qW_iadd, qW_ifne, qW_iflt, qW_ifle, qW_icle, qW_goto, qW_getf, qW_bald, qW_cv2_0, qW_cv4_0, qW_cv4_2, qW_iret0, Nat.reduceAdd, Nat.reduceMul, Nat.reduceBEq, Nat.reduceEqDiff, Nat.reduceLT, Nat.reduceLeDiff, Nat.zero_le, nI_add, nI_mul, nI_cl, qin_eq, qofI, qlg_0, qlg_s, qls_i0, qls_r0, qls_l0, qls_1, qls_2, qkl_i, qkl_r, qkl_l, qkl_n, qIsI_i, qIsL_l, qIsR_r, qint_i, qil_i, qil_r, qil_l, qf4_0, qf4_1, qf4_2, qf4_3, qf2_0, qf2_1, qcs_n, qcs_i, qcs_r, qcs_l, qst_n, qst_c, qJ_0, qJ_st, qJ_go, qfl_I, qfl_Z, qfl_L, qfl_R, qrI_i, qrL_l, qrV_v, qRcv_0, qRcv_s, eq_self, true_and, and_true, true_or, or_true, false_and, and_false, false_or, or_false, ite_true, if_true, if_false, Bool.true_or, Bool.false_or, Bool.or_false, beq_self_eq_true, Bool.false_eq_true, bX12_fitsAt_0, bX12_fitsAt_11, bX12_fitsAt_15, bX12_fitsAt_22, bX12_fitsAt_36, bX12_fitsAt_57, bX12_fitsAt_66, bX12_fitsAt_68, bX12_fitsAt_70, bX12_fitsAt_91, bX12_fitsAt_92, bX12_fitsAt_98, kX12_fitsAt_0, kX12_fitsAt_11, kX12_fitsAt_15, kX12_fitsAt_22, kX12_fitsAt_36, kX12_fitsAt_57, kX12_fitsAt_66, kX12_fitsAt_68, kX12_fitsAt_70, kX12_fitsAt_91, kX12_fitsAt_92, kX12_fitsAt_98, qK_139, qR_139_0, qK_140, qR_139_1, qK_141, qR_139_5, qK_142, qR_139_6, qK_143, qR_139_7, qK_144, qR_139_8, qK_145, qR_139_9, qK_146, qR_139_21, qK_147, qR_139_25, qK_148, qR_139_30, qK_149, qR_139_31, qK_150, qR_139_33, qK_151, qR_139_34, qK_152, qR_139_35, qK_153, qR_139_36, qK_154, qR_139_39, qK_155, qR_139_40, qK_156, qR_139_41, qK_157]
        simp (disch := omega) only [nI_leI, nI_ltI, nI_eq, nI_cl, qin_eq, nI_add, nI_mul, qb_z, qb_t, qb_f, nI_ne0', Nat.reduceAdd, Bool.false_eq_true, if_false, if_true, true_and, and_true, Nat.reduceEqDiff, not_true_eq_false, not_false_eq_true, false_implies, true_implies, ite_true, ite_false]
        rw [hF _ (by omega) (by omega)]
        simp (disch := omega) only [nI_leI, nI_ltI, nI_eq, nI_cl, qin_eq, nI_add, nI_mul, qb_z, qb_t, qb_f, nI_ne0', Nat.reduceAdd, Bool.false_eq_true, if_false, if_true, true_and, and_true, Nat.reduceEqDiff, not_true_eq_false, not_false_eq_true, false_implies, true_implies, ite_true, ite_false]
        by_cases e : F (c + 1) = true
        · rw [e]
          refine ⟨fun _ => ?_, fun hh => by cases hh⟩
          refine qV.go 30 [9999] ok_337 ?_
          simp only [qW_nop, qW_iconst, qW_iconstm, qW_bipush, qW_iloadn, qW_iload, qW_aloadn, qW_istore, qW_iadd, qW_ifne, qW_iflt, qW_ifle, qW_icle, qW_goto, qW_getf, qW_bald, qW_cv2_0, qW_cv4_0, qW_cv4_2, qW_iret0, Nat.reduceAdd, Nat.reduceMul, Nat.reduceBEq, Nat.reduceEqDiff, Nat.reduceLT, Nat.reduceLeDiff, Nat.zero_le, nI_add, nI_mul, nI_cl, qin_eq, qofI, qlg_0, qlg_s, qls_i0, qls_r0, qls_l0, qls_1, qls_2, qkl_i, qkl_r, qkl_l, qkl_n, qIsI_i, qIsL_l, qIsR_r, qint_i, qil_i, qil_r, qil_l, qf4_0, qf4_1, qf4_2, qf4_3, qf2_0, qf2_1, qcs_n, qcs_i, qcs_r, qcs_l, qst_n, qst_c, qJ_0, qJ_st, qJ_go, qfl_I, qfl_Z, qfl_L, qfl_R, qrI_i, qrL_l, qrV_v, qRcv_0, qRcv_s, eq_self, true_and, and_true, true_or, or_true, false_and, and_false, false_or, or_false, ite_true, if_true, if_false, Bool.true_or, Bool.false_or, Bool.or_false, beq_self_eq_true, Bool.false_eq_true, bX12_fitsAt_0, bX12_fitsAt_11, bX12_fitsAt_15, bX12_fitsAt_22, bX12_fitsAt_36, bX12_fitsAt_57, bX12_fitsAt_66, bX12_fitsAt_68, bX12_fitsAt_70, bX12_fitsAt_91, bX12_fitsAt_92, bX12_fitsAt_98, kX12_fitsAt_0, kX12_fitsAt_11, kX12_fitsAt_15, kX12_fitsAt_22, kX12_fitsAt_36, kX12_fitsAt_57, kX12_fitsAt_66, kX12_fitsAt_68, kX12_fitsAt_70, kX12_fitsAt_91, kX12_fitsAt_92, kX12_fitsAt_98, qK_139, qR_139_0, qK_140, qR_139_1, qK_141, qR_139_5, qK_142, qR_139_6, qK_143, qR_139_7, qK_144, qR_139_8, qK_145, qR_139_9, qK_146, qR_139_21, qK_147, qR_139_25, qK_148, qR_139_30, qK_149, qR_139_31, qK_150, qR_139_33, qK_151, qR_139_34, qK_152, qR_139_35, qK_153, qR_139_36, qK_154, qR_139_39, qK_155, qR_139_40, qK_156, qR_139_41, qK_157]
          exact e_ok S.1 hW S.2 (by decide) (by rw [zlst_is F 30 1 (c + 1) (by omega) (by omega) e hn]; rfl)
        · have e : F (c + 1) = false := by simpa using e
          have hlt : c < 29 := by
            rcases Nat.lt_or_ge c 29 with q | q
            · exact q
            · have e1 : F (i + 1) = false := by
                by_cases ei : i = c
                · subst ei; exact e
                · exact hn _ (by omega) (by omega)
              rw [i2] at e1; cases e1
          rw [e]
          refine ⟨fun hh => absurd rfl hh, fun _ => ?_⟩
          have := ih hlt (fun j j1 j2 => by
            by_cases ej : j = c + 1
            · rw [ej]; exact e
            · exact hn j (by omega) (by omega))
          exact this
    · rw [if_pos h]
      exact e_no S.1 hW S.2 (by decide) rfl
  · exact no _ hl g0 (by unfold yFitsAt; rw [if_neg (by rw [hz]; decide), if_pos g0])
theorem zleast_lt (U : Nat → Nat) : ∀ n, 0 < n → zleast U n < n
  | n + 1, _ => by
    simp only [zleast]
    split
    · omega
    · by_cases e : n = 0
      · subst e; exact Nat.zero_lt_one
      · have := zleast_lt U n (by omega)
        omega
set_option maxRecDepth 20000 in
theorem M_ask {σ : qSg} {A : zA} (hA : zMA σ A) (hW : zAW A) (b t n : Int32) : qCI 9 339 [qr 139, qi b, qi t, qi n] σ (zCall σ (yAsk A b t n)) := by
  have hM := hA.m
  have hw := hW.w
  have wb := hw.1
  have hT := hA.2.2.2.1
  have wT := hW.2.2.2.1
  have h5 : aC A 0 5 ≤ 9999 := hW.1.2.1
  have hl := zwrong_lt (aC A) (aT A) b t n
  refine qCI.of [some (qr 139), some (qi b), some (qi t), some (qi n), none, none, none] ok_339 (Nat.le_of_ble_eq_true rfl) rfl ?_
  refine qV.go 30 [49] ok_339 ?_
  simp only [qW_nop, qW_iconst, qW_bipush, qW_iloadn, qW_iload, qW_aloadn, qW_istore, qW_iinc, qW_icge, qW_ifle, qW_goto, qW_getf, qW_iald, qW_cv2_0, qW_cv4_0, qW_cv4_2, qW_iret0, Nat.reduceAdd, Nat.reduceMul, Nat.reduceBEq, Nat.reduceEqDiff, Nat.reduceLT, Nat.reduceLeDiff, Nat.zero_le, nI_add, nI_mul, nI_cl, qin_eq, qofI, qlg_0, qlg_s, qls_i0, qls_r0, qls_l0, qls_1, qls_2, qkl_i, qkl_r, qkl_l, qkl_n, qIsI_i, qIsL_l, qIsR_r, qint_i, qil_i, qil_r, qil_l, qf4_0, qf4_1, qf4_2, qf4_3, qf2_0, qf2_1, qcs_n, qcs_i, qcs_r, qcs_l, qst_n, qst_c, qJ_0, qJ_st, qJ_go, qfl_I, qfl_Z, qfl_L, qfl_R, qrI_i, qrL_l, qrV_v, qRcv_0, qRcv_s, eq_self, true_and, and_true, true_or, or_true, false_and, and_false, false_or, or_false, ite_true, if_true, if_false, Bool.true_or, Bool.false_or, Bool.or_false, beq_self_eq_true, Bool.false_eq_true, bX12_ask_0, bX12_ask_21, bX12_ask_43, bX12_ask_49, bX12_ask_79, bX12_ask_85, kX12_ask_0, kX12_ask_21, kX12_ask_43, kX12_ask_49, kX12_ask_79, kX12_ask_85, qK_139, qR_139_0, qK_140, qR_139_1, qK_141, qR_139_5, qK_142, qR_139_6, qK_143, qR_139_7, qK_144, qR_139_8, qK_145, qR_139_9, qK_146, qR_139_21, qK_147, qR_139_25, qK_148, qR_139_30, qK_149, qR_139_31, qK_150, qR_139_33, qK_151, qR_139_34, qK_152, qR_139_35, qK_153, qR_139_36, qK_154, qR_139_39, qK_155, qR_139_40, qK_156, qR_139_41, qK_157]
  refine qBI.fn (m_wrongSeen hM hw hT wT b t n) (by decide) ?_
  rw [qle0, nI_t (by omega)]
  refine ⟨fun g => ?_, fun g => ?_⟩
  · have g0 : zwrong (aC A) (aT A) b t n = 0 := by omega
    rw [g0]
    have eY : yAsk A b t n = if zcount (fun i => zfitA A b t n (i + 1)) 30 < 2 then yNo A 6 else yOk A (nI (zleast (zalike A b t n) (aC A 0 0))) := by unfold yAsk; rw [if_neg (by omega)]
    rw [eY]
    unfold zalike zfitA
    clear eY hl
    obtain ⟨b', t', n', m, hb, rfl, ht, rfl, hn, rfl, hm, hm2, hv⟩ := zwrong_ok g0
    rw [nI_tn (by omega), nI_tn (by omega), nI_tn (by omega)]
    refine qBV.of (m_laysFits hM hw hT (by omega) hb ht hn hm hm2 ((wT t' ht).2 m hm) hv) (by decide) (fun σ1 h1 => ?_)
    obtain ⟨z1, f1⟩ := h1
    have S := hA.scr hW f1 zPf_s
    rw [z1.2]
    have hF : ∀ p, 1 ≤ p → p ≤ 30 → σ1.1 150 p = qb (zfit (aC A) (aT A) b' t' n' p) := fun p h1 h2 => (z1.1 p h1 h2).1
    have hU : ∀ o, o < aC A 0 0 → ∀ p, 1 ≤ p → p ≤ 30 → σ1.1 149 (8 * p + o) = nI (zupb (zu (aC A) 2 b' p) o) := fun o ho p h1 h2 => (z1.1 p h1 h2).2 o ho
    generalize hFF : zfit (aC A) (aT A) b' t' n' = F at hF ⊢
    have hc := zcount_le (fun i => F (i + 1)) 30
    have M1 := S.1.m
    have e0 : (nI (aC A 0 0)) = σ1.1 140 0 := (zM_s M1 0 (by decide)).symm
    have hmx : ∀ o, zmx F (fun p => zupb (zu (aC A) 2 b' p) o) 30 ≤ 30 := fun o => zmx_le _ _ _
    have hal : ∀ o, o < aC A 0 0 → qFI 1 338 [qr 139, qi (nI o)] σ1 (nI (zmx F (fun p => zupb (zu (aC A) 2 b' p) o) 30)) := fun o ho => m_mostAlike (by omega) hF (hU o ho) (fun p => by
      have := zlst_le (fun n => zUp (zit n (zu (aC A) 2 b' p)) o) 300 0
      have e : zupb (zu (aC A) 2 b' p) o = zlst (fun n => zUp (zit n (zu (aC A) 2 b' p)) o) 300 0 := rfl
      rw [e]; omega)
    generalize hV : (fun o => zmx F (fun p => zupb (zu (aC A) 2 b' p) o) 30) = V
    have hmx : ∀ o, V o ≤ 30 := fun o => hV ▸ hmx o
    have hal : ∀ o, o < aC A 0 0 → qFI 1 338 [qr 139, qi (nI o)] σ1 (nI (V o)) := fun o ho => hV ▸ hal o ho
    simp (disch := omega) only [nI_leI, nI_ltI, nI_eq, nI_cl, qin_eq, nI_add, nI_mul, qb_z, qb_t, qb_f, nI_ne0', Nat.reduceAdd, Bool.false_eq_true, if_false, if_true, true_and, and_true, Nat.reduceEqDiff, not_true_eq_false, not_false_eq_true, false_implies, true_implies, ite_true, ite_false]
    refine ⟨fun h => ?_, fun h => ?_⟩
    · rw [if_neg (by omega)]
      have key := qdown (n := aC A 0 0) (P := fun q => 1 ≤ q → qV 339 9 (.inl (zCall σ (yOk A (nI (zleast V (aC A 0 0)))))) 49 [some (qr 139), some (qi (nI b')), some (qi (nI t')), some (qi (nI n')), some (qi (nI 0)), some (qi (nI (zleast V q))), some (qi (nI q))] [] σ1) (fun q hq ih => ?_) 1 (by omega) (Nat.le_refl _)
      · have e1 : zleast V 1 = 0 := by simp [zleast]
        rw [e1] at key
        exact key
      · intro hq1
        have hz := zleast_lt V q (by omega)
        have hs : zleast V (q + 1) = if V q < V (zleast V q) then q else zleast V q := rfl
        refine qV.go 30 [49, 79] ok_339 ?_
        simp only [qW_nop, qW_iconst, qW_bipush, qW_iloadn, qW_iload, qW_aloadn, qW_istore, qW_iinc, qW_icge, qW_ifle, qW_goto, qW_getf, qW_iald, qW_cv2_0, qW_cv4_0, qW_cv4_2, qW_iret0, Nat.reduceAdd, Nat.reduceMul, Nat.reduceBEq, Nat.reduceEqDiff, Nat.reduceLT, Nat.reduceLeDiff, Nat.zero_le, nI_add, nI_mul, nI_cl, qin_eq, qofI, qlg_0, qlg_s, qls_i0, qls_r0, qls_l0, qls_1, qls_2, qkl_i, qkl_r, qkl_l, qkl_n, qIsI_i, qIsL_l, qIsR_r, qint_i, qil_i, qil_r, qil_l, qf4_0, qf4_1, qf4_2, qf4_3, qf2_0, qf2_1, qcs_n, qcs_i, qcs_r, qcs_l, qst_n, qst_c, qJ_0, qJ_st, qJ_go, qfl_I, qfl_Z, qfl_L, qfl_R, qrI_i, qrL_l, qrV_v, qRcv_0, qRcv_s, eq_self, true_and, and_true, true_or, or_true, false_and, and_false, false_or, or_false, ite_true, if_true, if_false, Bool.true_or, Bool.false_or, Bool.or_false, beq_self_eq_true, Bool.false_eq_true, bX12_ask_0, bX12_ask_21, bX12_ask_43, bX12_ask_49, bX12_ask_79, bX12_ask_85, kX12_ask_0, kX12_ask_21, kX12_ask_43, kX12_ask_49, kX12_ask_79, kX12_ask_85, qK_139, qR_139_0, qK_140, qR_139_1, qK_141, qR_139_5, qK_142, qR_139_6, qK_143, qR_139_7, qK_144, qR_139_8, qK_145, qR_139_9, qK_146, qR_139_21, qK_147, qR_139_25, qK_148, qR_139_30, qK_149, qR_139_31, qK_150, qR_139_33, qK_151, qR_139_34, qK_152, qR_139_35, qK_153, qR_139_36, qK_154, qR_139_39, qK_155, qR_139_40, qK_156, qR_139_41, qK_157]
        rw [zM_s M1 0 (by decide)]
        simp (disch := omega) only [nI_leI, nI_ltI, nI_eq, nI_cl, qin_eq, nI_add, nI_mul, qb_z, qb_t, qb_f, nI_ne0', Nat.reduceAdd, Bool.false_eq_true, if_false, if_true, true_and, and_true, Nat.reduceEqDiff, not_true_eq_false, not_false_eq_true, false_implies, true_implies, ite_true, ite_false]
        refine ⟨fun g => ?_, fun g => ?_⟩
        · have : q = aC A 0 0 := by omega
          subst this
          exact e_ok S.1 hW S.2 (by decide) rfl
        · have st : ∀ v, v = nI (zleast V (q + 1)) → qV 339 9 (.inl (zCall σ (yOk A (nI (zleast V (aC A 0 0)))))) 79 [some (qr 139), some (qi (nI b')), some (qi (nI t')), some (qi (nI n')), some (qi (nI 0)), some (qi v), some (qi (nI q))] [] σ1 := by
            intro v hv
            subst hv
            refine qV.go 30 [49] ok_339 ?_
            simp only [qW_nop, qW_iconst, qW_bipush, qW_iloadn, qW_iload, qW_aloadn, qW_istore, qW_iinc, qW_icge, qW_ifle, qW_goto, qW_getf, qW_iald, qW_cv2_0, qW_cv4_0, qW_cv4_2, qW_iret0, Nat.reduceAdd, Nat.reduceMul, Nat.reduceBEq, Nat.reduceEqDiff, Nat.reduceLT, Nat.reduceLeDiff, Nat.zero_le, nI_add, nI_mul, nI_cl, qin_eq, qofI, qlg_0, qlg_s, qls_i0, qls_r0, qls_l0, qls_1, qls_2, qkl_i, qkl_r, qkl_l, qkl_n, qIsI_i, qIsL_l, qIsR_r, qint_i, qil_i, qil_r, qil_l, qf4_0, qf4_1, qf4_2, qf4_3, qf2_0, qf2_1, qcs_n, qcs_i, qcs_r, qcs_l, qst_n, qst_c, qJ_0, qJ_st, qJ_go, qfl_I, qfl_Z, qfl_L, qfl_R, qrI_i, qrL_l, qrV_v, qRcv_0, qRcv_s, eq_self, true_and, and_true, true_or, or_true, false_and, and_false, false_or, or_false, ite_true, if_true, if_false, Bool.true_or, Bool.false_or, Bool.or_false, beq_self_eq_true, Bool.false_eq_true, bX12_ask_0, bX12_ask_21, bX12_ask_43, bX12_ask_49, bX12_ask_79, bX12_ask_85, kX12_ask_0, kX12_ask_21, kX12_ask_43, kX12_ask_49, kX12_ask_79, kX12_ask_85, qK_139, qR_139_0, qK_140, qR_139_1, qK_141, qR_139_5, qK_142, qR_139_6, qK_143, qR_139_7, qK_144, qR_139_8, qK_145, qR_139_9, qK_146, qR_139_21, qK_147, qR_139_25, qK_148, qR_139_30, qK_149, qR_139_31, qK_150, qR_139_33, qK_151, qR_139_34, qK_152, qR_139_35, qK_153, qR_139_36, qK_154, qR_139_39, qK_155, qR_139_40, qK_156, qR_139_41, qK_157]
            exact ih (by omega) (by omega)
          refine qBI.fn (hal q (by omega)) (by decide) (qBI.fn (hal _ (by omega)) (by decide) ?_)
          have m1 := hmx q
          have m2 := hmx (zleast V q)
          simp (disch := omega) only [nI_leI, nI_ltI, nI_eq, nI_cl, qin_eq, nI_add, nI_mul, qb_z, qb_t, qb_f, nI_ne0', Nat.reduceAdd, Bool.false_eq_true, if_false, if_true, true_and, and_true, Nat.reduceEqDiff, not_true_eq_false, not_false_eq_true, false_implies, true_implies, ite_true, ite_false]
          refine ⟨fun h => st _ ?_, fun h => st _ ?_⟩
          · rw [hs, if_neg (by omega)]
          · rw [hs, if_pos (by omega)]
    · rw [if_pos (by omega)]
      exact e_no S.1 hW S.2 (by decide) rfl
  · refine e_no hA hW zRef.rf (by decide) ?_
    unfold yAsk
    rw [if_pos (by omega)]
    rfl
set_option maxRecDepth 20000 in
theorem M_restAt {σ : qSg} {A : zA} (hA : zMA σ A) (hW : zAW A) (q n k w : Int32) : qCI 4 344 [qr 139, qi q, qi n, qi k, qi w] σ (zCall σ (yRestAt A q n k w)) := by
  have hM := hA.m
  have hw := hW.w
  have wq := hw.2.1
  refine qCI.of [some (qr 139), some (qi q), some (qi n), some (qi k), some (qi w), none] ok_344 (Nat.le_of_ble_eq_true rfl) rfl ?_
  refine qV.go 30 [35] ok_344 ?_
  simp only [qW_nop, qW_iconst, qW_iconstm, qW_bipush, qW_ldc2, qW_lconst, qW_iloadn, qW_iload, qW_aloadn, qW_istore, qW_idiv, qW_irem, qW_i2l, qW_ifeq, qW_ifne, qW_icne, qW_iflt, qW_icle, qW_goto, qW_cs3_0, qW_cv2_0, qW_cv4_0, qW_iret0, Nat.reduceAdd, Nat.reduceMul, Nat.reduceBEq, Nat.reduceEqDiff, Nat.reduceLT, Nat.reduceLeDiff, Nat.zero_le, nI_add, nI_mul, nI_cl, qin_eq, qofI, qlg_0, qlg_s, qls_i0, qls_r0, qls_l0, qls_1, qls_2, qkl_i, qkl_r, qkl_l, qkl_n, qIsI_i, qIsL_l, qIsR_r, qint_i, qil_i, qil_r, qil_l, qf4_0, qf4_1, qf4_2, qf4_3, qf2_0, qf2_1, qcs_n, qcs_i, qcs_r, qcs_l, qst_n, qst_c, qJ_0, qJ_st, qJ_go, qfl_I, qfl_Z, qfl_L, qfl_R, qrI_i, qrL_l, qrV_v, qRcv_0, qRcv_s, eq_self, true_and, and_true, true_or, or_true, false_and, and_false, false_or, or_false, ite_true, if_true, if_false, Bool.true_or, Bool.false_or, Bool.or_false, beq_self_eq_true, Bool.false_eq_true, bX12_restAt_0, bX12_restAt_35, bX12_restAt_41, bX12_restAt_63, bX12_restAt_77, bX12_restAt_82, kX12_restAt_0, kX12_restAt_35, kX12_restAt_41, kX12_restAt_63, kX12_restAt_77, kX12_restAt_82, qK_139, qR_139_0, qK_140, qR_139_1, qK_141, qR_139_5, qK_142, qR_139_6, qK_143, qR_139_7, qK_144, qR_139_8, qK_145, qR_139_9, qK_146, qR_139_21, qK_147, qR_139_25, qK_148, qR_139_30, qK_149, qR_139_31, qK_150, qR_139_33, qK_151, qR_139_34, qK_152, qR_139_35, qK_153, qR_139_36, qK_154, qR_139_39, qK_155, qR_139_40, qK_156, qR_139_41, qK_157]
  refine qBI.fn (m_isQuarrel hM hw _) (by decide) ?_
  simp (disch := omega) only [nI_leI, nI_ltI, nI_eq, nI_cl, qin_eq, nI_add, nI_mul, qb_z, qb_t, qb_f, nI_ne0', Nat.reduceAdd, Bool.false_eq_true, if_false, if_true, true_and, and_true, Nat.reduceEqDiff, not_true_eq_false, not_false_eq_true, false_implies, true_implies, ite_true, ite_false]
  have no : (zrg q (aC A 0 1) && zih n 0 20 && decide (0 ≤ k.toInt) && zih w 0 1) = false → qV 344 4 (.inl (zCall σ (yRestAt A q n k w))) 35 [some (qr 139), some (qi q), some (qi n), some (qi k), some (qi w), none] [] σ := by
    intro hz
    refine qV.go 30 [9999] ok_344 ?_
    simp only [qW_nop, qW_iconst, qW_iconstm, qW_bipush, qW_ldc2, qW_lconst, qW_iloadn, qW_iload, qW_aloadn, qW_istore, qW_idiv, qW_irem, qW_i2l, qW_ifeq, qW_ifne, qW_icne, qW_iflt, qW_icle, qW_goto, qW_cs3_0, qW_cv2_0, qW_cv4_0, qW_iret0, Nat.reduceAdd, Nat.reduceMul, Nat.reduceBEq, Nat.reduceEqDiff, Nat.reduceLT, Nat.reduceLeDiff, Nat.zero_le, nI_add, nI_mul, nI_cl, qin_eq, qofI, qlg_0, qlg_s, qls_i0, qls_r0, qls_l0, qls_1, qls_2, qkl_i, qkl_r, qkl_l, qkl_n, qIsI_i, qIsL_l, qIsR_r, qint_i, qil_i, qil_r, qil_l, qf4_0, qf4_1, qf4_2, qf4_3, qf2_0, qf2_1, qcs_n, qcs_i, qcs_r, qcs_l, qst_n, qst_c, qJ_0, qJ_st, qJ_go, qfl_I, qfl_Z, qfl_L, qfl_R, qrI_i, qrL_l, qrV_v, qRcv_0, qRcv_s, eq_self, true_and, and_true, true_or, or_true, false_and, and_false, false_or, or_false, ite_true, if_true, if_false, Bool.true_or, Bool.false_or, Bool.or_false, beq_self_eq_true, Bool.false_eq_true, bX12_restAt_0, bX12_restAt_35, bX12_restAt_41, bX12_restAt_63, bX12_restAt_77, bX12_restAt_82, kX12_restAt_0, kX12_restAt_35, kX12_restAt_41, kX12_restAt_63, kX12_restAt_77, kX12_restAt_82, qK_139, qR_139_0, qK_140, qR_139_1, qK_141, qR_139_5, qK_142, qR_139_6, qK_143, qR_139_7, qK_144, qR_139_8, qK_145, qR_139_9, qK_146, qR_139_21, qK_147, qR_139_25, qK_148, qR_139_30, qK_149, qR_139_31, qK_150, qR_139_33, qK_151, qR_139_34, qK_152, qR_139_35, qK_153, qR_139_36, qK_154, qR_139_39, qK_155, qR_139_40, qK_156, qR_139_41, qK_157]
    exact e_no hA hW zRef.rf (by decide) (by unfold yRestAt; rw [if_pos hz]; rfl)
  refine ⟨fun h1 => no (by rw [h1]; rfl), fun h1 => ?_⟩
  have h1 : zrg q (aC A 0 1) = true := by simpa using h1
  refine qBI.fn (m_isFrom' σ _ (lo := 0) (hi := 20) (by decide) (by decide)) (by decide) ?_
  rw [zlh_i]
  simp (disch := omega) only [nI_leI, nI_ltI, nI_eq, nI_cl, qin_eq, nI_add, nI_mul, qb_z, qb_t, qb_f, nI_ne0', Nat.reduceAdd, Bool.false_eq_true, if_false, if_true, true_and, and_true, Nat.reduceEqDiff, not_true_eq_false, not_false_eq_true, false_implies, true_implies, ite_true, ite_false]
  refine ⟨fun h2 => no (by rw [h2, Bool.and_false]; rfl), fun h2 => ?_⟩
  have h2 : zih n 0 20 = true := by simpa using h2
  simp only [z0i, qlt, qle, nI_t (show 1 < 2147483648 by decide)]
  refine ⟨fun h3 => no (by rw [decide_eq_false (by omega), Bool.and_false]; rfl), fun h3 => ⟨fun h4 => no (by rw [show zih w 0 1 = false by simp [zih]; omega, Bool.and_false]), fun h4 => ⟨fun h5 => ?_, fun h5 => no (by rw [show zih w 0 1 = false by simp [zih]; omega, Bool.and_false])⟩⟩⟩
  have hz : zih w 0 1 = true := by simp [zih]; omega
  obtain ⟨v, -, hv, rfl⟩ := zih_nI hz
  obtain ⟨i, hi, rfl⟩ := zrg_nI h1
  obtain ⟨m, -, hm, rfl⟩ := zih_nI h2
  obtain ⟨j, hj, rfl⟩ : ∃ j, j < 2147483648 ∧ k = nI j := by
    have := qx_range k
    refine ⟨k.toInt.toNat, by omega, ?_⟩
    rw [qeq, nI_t (by omega)]
    omega
  have eY : yRestAt A (nI i) (nI m) (nI j) (nI v) = match zseek (zrp (aC A 8 i) m) ((m + 1) * (m + 1)) 0 j with
    | none => yNo A 6
    | some x => yOk A (nI (if v = 0 then x / (m + 1) else x % (m + 1))) := by
    unfold yRestAt
    rw [if_neg (by rw [h1, h2, hz, decide_eq_true (show (0 : Int) ≤ (nI j).toInt by omega)]; decide), nI_tn (by omega), nI_tn (by omega), nI_tn (by omega), nI_tn (by omega)]
    cases zseek (zrp (aC A 8 i) m) ((m + 1) * (m + 1)) 0 j <;> rfl
  rw [eY]
  refine qBI.fn (m_restOf hM hw hi hm hj) (by decide) ?_
  cases hs : zseek (zrp (aC A 8 i) m) ((m + 1) * (m + 1)) 0 j with
  | none =>
    refine ⟨fun h => absurd rfl h, fun _ => ?_⟩
    exact e_no hA hW zRef.rf (by decide) rfl
  | some x =>
    have hx := zseek_lt _ _ _ _ _ hs
    rw [Nat.zero_add] at hx
    have hd : x / (m + 1) < m + 1 := (Nat.div_lt_iff_lt_mul (by omega)).mpr hx
    have hr : x % (m + 1) < m + 1 := Nat.mod_lt _ (by omega)
    have hne : ¬ nI (100 * (x / (m + 1)) + x % (m + 1)) = iI (-1) := by
      rw [iI_nat, qeq, iI_toInt (by omega) (by omega)]
      intro h
      have : (iI (-1)).toInt = -1 := rfl
      omega
    refine ⟨fun _ => ?_, fun h => absurd h hne⟩
    simp (disch := omega) only [nI_leI, nI_ltI, nI_eq, nI_cl, qin_eq, nI_add, nI_mul, qb_z, qb_t, qb_f, nI_ne0', Nat.reduceAdd, Bool.false_eq_true, if_false, if_true, true_and, and_true, Nat.reduceEqDiff, not_true_eq_false, not_false_eq_true, false_implies, true_implies, ite_true, ite_false]
    refine ⟨fun h => ?_, fun h => ?_⟩
    · simp only [if_neg h]
      rw [nI_rem (by omega) (by omega) (by omega), show (100 * (x / (m + 1)) + x % (m + 1)) % 100 = x % (m + 1) by omega]
      exact e_ok hA hW zRef.rf (by decide) rfl
    · simp only [if_pos h]
      rw [nI_div (by omega) (by omega) (by omega), show (100 * (x / (m + 1)) + x % (m + 1)) / 100 = x / (m + 1) by omega]
      exact e_ok hA hW zRef.rf (by decide) rfl
set_option maxRecDepth 20000 in
theorem M_rests {σ : qSg} {A : zA} (hA : zMA σ A) (hW : zAW A) (q n : Int32) : qCI 3 343 [qr 139, qi q, qi n] σ (zCall σ (yRests A q n)) := by
  have hM := hA.m
  have hw := hW.w
  have wq := hw.2.1
  refine qCI.of [some (qr 139), some (qi q), some (qi n), none, none, none] ok_343 (Nat.le_of_ble_eq_true rfl) rfl ?_
  refine qV.go 30 [20, 31] ok_343 ?_
  simp only [qW_nop, qW_iconst, qW_ldc2, qW_lconst, qW_iloadn, qW_iload, qW_aloadn, qW_istoren, qW_istore, qW_iinc, qW_iadd, qW_i2l, qW_ifeq, qW_ifne, qW_icgt, qW_goto, qW_cs3_0, qW_cs4_0, qW_cv2_0, qW_cv3_0, qW_iret0, Nat.reduceAdd, Nat.reduceMul, Nat.reduceBEq, Nat.reduceEqDiff, Nat.reduceLT, Nat.reduceLeDiff, Nat.zero_le, nI_add, nI_mul, nI_cl, qin_eq, qofI, qlg_0, qlg_s, qls_i0, qls_r0, qls_l0, qls_1, qls_2, qkl_i, qkl_r, qkl_l, qkl_n, qIsI_i, qIsL_l, qIsR_r, qint_i, qil_i, qil_r, qil_l, qf4_0, qf4_1, qf4_2, qf4_3, qf2_0, qf2_1, qcs_n, qcs_i, qcs_r, qcs_l, qst_n, qst_c, qJ_0, qJ_st, qJ_go, qfl_I, qfl_Z, qfl_L, qfl_R, qrI_i, qrL_l, qrV_v, qRcv_0, qRcv_s, eq_self, true_and, and_true, true_or, or_true, false_and, and_false, false_or, or_false, ite_true, if_true, if_false, Bool.true_or, Bool.false_or, Bool.or_false, beq_self_eq_true, Bool.false_eq_true, bX12_rests_0, bX12_rests_20, bX12_rests_26, bX12_rests_31, bX12_rests_40, bX12_rests_68, bX12_rests_69, bX12_rests_77, bX12_rests_83, kX12_rests_0, kX12_rests_20, kX12_rests_26, kX12_rests_31, kX12_rests_40, kX12_rests_68, kX12_rests_69, kX12_rests_77, kX12_rests_83, qK_139, qR_139_0, qK_140, qR_139_1, qK_141, qR_139_5, qK_142, qR_139_6, qK_143, qR_139_7, qK_144, qR_139_8, qK_145, qR_139_9, qK_146, qR_139_21, qK_147, qR_139_25, qK_148, qR_139_30, qK_149, qR_139_31, qK_150, qR_139_33, qK_151, qR_139_34, qK_152, qR_139_35, qK_153, qR_139_36, qK_154, qR_139_39, qK_155, qR_139_40, qK_156, qR_139_41, qK_157]
  refine qBI.fn (m_isQuarrel hM hw _) (by decide) ?_
  simp (disch := omega) only [nI_leI, nI_ltI, nI_eq, nI_cl, qin_eq, nI_add, nI_mul, qb_z, qb_t, qb_f, nI_ne0', Nat.reduceAdd, Bool.false_eq_true, if_false, if_true, true_and, and_true, Nat.reduceEqDiff, not_true_eq_false, not_false_eq_true, false_implies, true_implies, ite_true, ite_false]
  have no : (zrg q (aC A 0 1) && zih n 0 20) = false → qV 343 3 (.inl (zCall σ (yRests A q n))) 20 [some (qr 139), some (qi q), some (qi n), none, none, none] [] σ := by
    intro hz
    refine qV.go 30 [9999] ok_343 ?_
    simp only [qW_nop, qW_iconst, qW_ldc2, qW_lconst, qW_iloadn, qW_iload, qW_aloadn, qW_istoren, qW_istore, qW_iinc, qW_iadd, qW_i2l, qW_ifeq, qW_ifne, qW_icgt, qW_goto, qW_cs3_0, qW_cs4_0, qW_cv2_0, qW_cv3_0, qW_iret0, Nat.reduceAdd, Nat.reduceMul, Nat.reduceBEq, Nat.reduceEqDiff, Nat.reduceLT, Nat.reduceLeDiff, Nat.zero_le, nI_add, nI_mul, nI_cl, qin_eq, qofI, qlg_0, qlg_s, qls_i0, qls_r0, qls_l0, qls_1, qls_2, qkl_i, qkl_r, qkl_l, qkl_n, qIsI_i, qIsL_l, qIsR_r, qint_i, qil_i, qil_r, qil_l, qf4_0, qf4_1, qf4_2, qf4_3, qf2_0, qf2_1, qcs_n, qcs_i, qcs_r, qcs_l, qst_n, qst_c, qJ_0, qJ_st, qJ_go, qfl_I, qfl_Z, qfl_L, qfl_R, qrI_i, qrL_l, qrV_v, qRcv_0, qRcv_s, eq_self, true_and, and_true, true_or, or_true, false_and, and_false, false_or, or_false, ite_true, if_true, if_false, Bool.true_or, Bool.false_or, Bool.or_false, beq_self_eq_true, Bool.false_eq_true, bX12_rests_0, bX12_rests_20, bX12_rests_26, bX12_rests_31, bX12_rests_40, bX12_rests_68, bX12_rests_69, bX12_rests_77, bX12_rests_83, kX12_rests_0, kX12_rests_20, kX12_rests_26, kX12_rests_31, kX12_rests_40, kX12_rests_68, kX12_rests_69, kX12_rests_77, kX12_rests_83, qK_139, qR_139_0, qK_140, qR_139_1, qK_141, qR_139_5, qK_142, qR_139_6, qK_143, qR_139_7, qK_144, qR_139_8, qK_145, qR_139_9, qK_146, qR_139_21, qK_147, qR_139_25, qK_148, qR_139_30, qK_149, qR_139_31, qK_150, qR_139_33, qK_151, qR_139_34, qK_152, qR_139_35, qK_153, qR_139_36, qK_154, qR_139_39, qK_155, qR_139_40, qK_156, qR_139_41, qK_157]
    exact e_no hA hW zRef.rf (by decide) (by unfold yRests; rw [if_pos hz]; rfl)
  refine ⟨fun h1 => no (by rw [h1]; rfl), fun h1 => ?_⟩
  have h1 : zrg q (aC A 0 1) = true := by simpa using h1
  refine qBI.fn (m_isFrom' σ _ (lo := 0) (hi := 20) (by decide) (by decide)) (by decide) ?_
  rw [zlh_i]
  simp (disch := omega) only [nI_leI, nI_ltI, nI_eq, nI_cl, qin_eq, nI_add, nI_mul, qb_z, qb_t, qb_f, nI_ne0', Nat.reduceAdd, Bool.false_eq_true, if_false, if_true, true_and, and_true, Nat.reduceEqDiff, not_true_eq_false, not_false_eq_true, false_implies, true_implies, ite_true, ite_false]
  refine ⟨fun h2 => ?_, fun h2 => no (by rw [h2, Bool.and_false])⟩
  have h2 : zih n 0 20 = true := by simpa using h2
  obtain ⟨i, hi, rfl⟩ := zrg_nI h1
  obtain ⟨m, -, hm, rfl⟩ := zih_nI h2
  clear no
  have hg : aC A 8 i ≤ 99 := (hw.2.2.2.2.2.2.2.2.2 i hi).2.2.2.1
  have eY : yRests A (nI i) (nI m) = yOk A (nI (zcount (zrp (aC A 8 i) m) ((m + 1) * (m + 1)))) := by
    unfold yRests
    rw [if_neg (by rw [h1, h2]; decide), nI_tn (by omega), nI_tn (by omega)]
  rw [eY]
  have hle : ∀ x, zcount (zrp (aC A 8 i) m) x ≤ x := fun x => zcount_le _ _
  have h441 : (m + 1) * (m + 1) ≤ 21 * 21 := Nat.mul_le_mul (by omega) (by omega)
  have key := qdown (n := m + 1) (P := fun a => ∀ l5 : Option qPV, qV 343 3 (.inl (zCall σ (yOk A (nI (zcount (zrp (aC A 8 i) m) ((m + 1) * (m + 1))))))) 31 [some (qr 139), some (qi (nI i)), some (qi (nI m)), some (qi (nI (zcount (zrp (aC A 8 i) m) (a * (m + 1))))), some (qi (nI a)), l5] [] σ) (fun a ha ih => ?_)
  · have := key 0 (Nat.zero_le _) none
    rw [Nat.zero_mul] at this
    exact this
  · intro l5
    refine qV.go 30 [31, 40] ok_343 ?_
    simp only [qW_nop, qW_iconst, qW_ldc2, qW_lconst, qW_iloadn, qW_iload, qW_aloadn, qW_istoren, qW_istore, qW_iinc, qW_iadd, qW_i2l, qW_ifeq, qW_ifne, qW_icgt, qW_goto, qW_cs3_0, qW_cs4_0, qW_cv2_0, qW_cv3_0, qW_iret0, Nat.reduceAdd, Nat.reduceMul, Nat.reduceBEq, Nat.reduceEqDiff, Nat.reduceLT, Nat.reduceLeDiff, Nat.zero_le, nI_add, nI_mul, nI_cl, qin_eq, qofI, qlg_0, qlg_s, qls_i0, qls_r0, qls_l0, qls_1, qls_2, qkl_i, qkl_r, qkl_l, qkl_n, qIsI_i, qIsL_l, qIsR_r, qint_i, qil_i, qil_r, qil_l, qf4_0, qf4_1, qf4_2, qf4_3, qf2_0, qf2_1, qcs_n, qcs_i, qcs_r, qcs_l, qst_n, qst_c, qJ_0, qJ_st, qJ_go, qfl_I, qfl_Z, qfl_L, qfl_R, qrI_i, qrL_l, qrV_v, qRcv_0, qRcv_s, eq_self, true_and, and_true, true_or, or_true, false_and, and_false, false_or, or_false, ite_true, if_true, if_false, Bool.true_or, Bool.false_or, Bool.or_false, beq_self_eq_true, Bool.false_eq_true, bX12_rests_0, bX12_rests_20, bX12_rests_26, bX12_rests_31, bX12_rests_40, bX12_rests_68, bX12_rests_69, bX12_rests_77, bX12_rests_83, kX12_rests_0, kX12_rests_20, kX12_rests_26, kX12_rests_31, kX12_rests_40, kX12_rests_68, kX12_rests_69, kX12_rests_77, kX12_rests_83, qK_139, qR_139_0, qK_140, qR_139_1, qK_141, qR_139_5, qK_142, qR_139_6, qK_143, qR_139_7, qK_144, qR_139_8, qK_145, qR_139_9, qK_146, qR_139_21, qK_147, qR_139_25, qK_148, qR_139_30, qK_149, qR_139_31, qK_150, qR_139_33, qK_151, qR_139_34, qK_152, qR_139_35, qK_153, qR_139_36, qK_154, qR_139_39, qK_155, qR_139_40, qK_156, qR_139_41, qK_157]
    simp (disch := omega) only [nI_leI, nI_ltI, nI_eq, nI_cl, qin_eq, nI_add, nI_mul, qb_z, qb_t, qb_f, nI_ne0', Nat.reduceAdd, Bool.false_eq_true, if_false, if_true, true_and, and_true, Nat.reduceEqDiff, not_true_eq_false, not_false_eq_true, false_implies, true_implies, ite_true, ite_false]
    refine ⟨fun g => ?_, fun g => ?_⟩
    · have : a = m + 1 := by omega
      subst this
      exact e_ok hA hW zRef.rf (by decide) rfl
    · have ha1 : a < m + 1 := by omega
      have key2 := qdown (n := m + 1) (P := fun b => qV 343 3 (.inl (zCall σ (yOk A (nI (zcount (zrp (aC A 8 i) m) ((m + 1) * (m + 1))))))) 40 [some (qr 139), some (qi (nI i)), some (qi (nI m)), some (qi (nI (zcount (zrp (aC A 8 i) m) (a * (m + 1) + b)))), some (qi (nI a)), some (qi (nI b))] [] σ) (fun b hb ih2 => ?_)
      · exact key2 0 (Nat.zero_le _)
      · refine qV.go 30 [31, 40] ok_343 ?_
        simp only [qW_nop, qW_iconst, qW_ldc2, qW_lconst, qW_iloadn, qW_iload, qW_aloadn, qW_istoren, qW_istore, qW_iinc, qW_iadd, qW_i2l, qW_ifeq, qW_ifne, qW_icgt, qW_goto, qW_cs3_0, qW_cs4_0, qW_cv2_0, qW_cv3_0, qW_iret0, Nat.reduceAdd, Nat.reduceMul, Nat.reduceBEq, Nat.reduceEqDiff, Nat.reduceLT, Nat.reduceLeDiff, Nat.zero_le, nI_add, nI_mul, nI_cl, qin_eq, qofI, qlg_0, qlg_s, qls_i0, qls_r0, qls_l0, qls_1, qls_2, qkl_i, qkl_r, qkl_l, qkl_n, qIsI_i, qIsL_l, qIsR_r, qint_i, qil_i, qil_r, qil_l, qf4_0, qf4_1, qf4_2, qf4_3, qf2_0, qf2_1, qcs_n, qcs_i, qcs_r, qcs_l, qst_n, qst_c, qJ_0, qJ_st, qJ_go, qfl_I, qfl_Z, qfl_L, qfl_R, qrI_i, qrL_l, qrV_v, qRcv_0, qRcv_s, eq_self, true_and, and_true, true_or, or_true, false_and, and_false, false_or, or_false, ite_true, if_true, if_false, Bool.true_or, Bool.false_or, Bool.or_false, beq_self_eq_true, Bool.false_eq_true, bX12_rests_0, bX12_rests_20, bX12_rests_26, bX12_rests_31, bX12_rests_40, bX12_rests_68, bX12_rests_69, bX12_rests_77, bX12_rests_83, kX12_rests_0, kX12_rests_20, kX12_rests_26, kX12_rests_31, kX12_rests_40, kX12_rests_68, kX12_rests_69, kX12_rests_77, kX12_rests_83, qK_139, qR_139_0, qK_140, qR_139_1, qK_141, qR_139_5, qK_142, qR_139_6, qK_143, qR_139_7, qK_144, qR_139_8, qK_145, qR_139_9, qK_146, qR_139_21, qK_147, qR_139_25, qK_148, qR_139_30, qK_149, qR_139_31, qK_150, qR_139_33, qK_151, qR_139_34, qK_152, qR_139_35, qK_153, qR_139_36, qK_154, qR_139_39, qK_155, qR_139_40, qK_156, qR_139_41, qK_157]
        have hs : (a + 1) * (m + 1) = a * (m + 1) + (m + 1) := by rw [Nat.add_mul, Nat.one_mul]
        have hle2 : (a + 1) * (m + 1) ≤ (m + 1) * (m + 1) := Nat.mul_le_mul_right _ ha1
        simp (disch := omega) only [nI_leI, nI_ltI, nI_eq, nI_cl, qin_eq, nI_add, nI_mul, qb_z, qb_t, qb_f, nI_ne0', Nat.reduceAdd, Bool.false_eq_true, if_false, if_true, true_and, and_true, Nat.reduceEqDiff, not_true_eq_false, not_false_eq_true, false_implies, true_implies, ite_true, ite_false]
        refine ⟨fun g => ?_, fun g => ?_⟩
        · have : b = m + 1 := by omega
          subst this
          have := ih ha1 (some (qi (nI (m + 1))))
          rw [hs] at this
          exact this
        · have hb1 : b < m + 1 := by omega
          refine qBI.fn (m_quarrelOf σ (by omega)) (by decide) ?_
          rw [zMq2 hM hi]
          refine qBI.fn (m_isRest σ (by omega) (by omega) (by omega) (by omega)) (by decide) ?_
          have := ih2 hb1
          have e : zrp (aC A 8 i) m (a * (m + 1) + b) = zrest (aC A 8 i) a b m := by
            unfold zrp
            rw [(zdm hb1).1, (zdm hb1).2]
          rw [show a * (m + 1) + (b + 1) = (a * (m + 1) + b) + 1 by omega] at this
          simp only [zcount] at this
          rw [e] at this
          have hl := hle (a * (m + 1) + b)
          simp (disch := omega) only [nI_leI, nI_ltI, nI_eq, nI_cl, qin_eq, nI_add, nI_mul, qb_z, qb_t, qb_f, nI_ne0', Nat.reduceAdd, Bool.false_eq_true, if_false, if_true, true_and, and_true, Nat.reduceEqDiff, not_true_eq_false, not_false_eq_true, false_implies, true_implies, ite_true, ite_false]
          refine ⟨fun h => ?_, fun h => ?_⟩
          · rw [if_neg (by simpa using h)] at this
            exact this
          · rw [if_pos (by simpa using h)] at this
            exact this
