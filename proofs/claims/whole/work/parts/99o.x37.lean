/-! the class: a life runs -/
theorem zrg_m1 (n : Nat) : zrg (iI (-1)) n = false := by
  unfold zrg
  rw [iI_toInt (by decide) (by decide)]
  rfl
set_option maxRecDepth 20000 in
theorem run_done {σ σ1 : qSg} {r n st i : Nat} {W : Nat → Nat → Nat} {s : zL} {x3 x : Int32} (hn : n ≤ 60) (hV : zXW σ1 74 W n st) (h : zXl σ1 r s) (f : zF (zPlf r) σ σ1) (hx : zrg x n = false) (hi : i < 1000000) :
    qV 63 7 (.inr (.inr fun σ' => zXl σ' r s ∧ zF (zPlf r) σ σ')) 41 [some (qr 80), some (qr r), some (qr 74), some (qi x3), some (qi x), some (qi (nI i))] [] σ1 := by
  have fin : qV 63 7 (.inr (.inr fun σ' => zXl σ' r s ∧ zF (zPlf r) σ σ')) 128 [some (qr 80), some (qr r), some (qr 74), some (qi x3), some (qi x), some (qi (nI i))] [] σ1 := by
    refine qV.go 30 [9999] ok_63 ?_
    simp only [qW_nop, qW_iconst, qW_iconstm, qW_bipush, qW_sipush, qW_ldc, qW_iloadn, qW_iload, qW_aloadn, qW_istore, qW_iinc, qW_iadd, qW_dup, qW_ifeq, qW_icne, qW_iclt, qW_icge, qW_goto, qW_getf, qW_iald, qW_vret, qW_cv2_0, qW_cv3_0, qW_cv4_0, qW_putf0, qW_putf3, Nat.reduceAdd, Nat.reduceMul, Nat.reduceBEq, Nat.reduceEqDiff, Nat.reduceLT, Nat.reduceLeDiff, Nat.zero_le, nI_add, nI_mul, nI_cl, qin_eq, qofI, qlg_0, qlg_s, qls_i0, qls_r0, qls_l0, qls_1, qls_2, qkl_i, qkl_r, qkl_l, qkl_n, qIsI_i, qIsL_l, qIsR_r, qint_i, qil_i, qil_r, qil_l, qf4_0, qf4_1, qf4_2, qf4_3, qf2_0, qf2_1, qcs_n, qcs_i, qcs_r, qcs_l, qst_n, qst_c, qJ_0, qJ_st, qJ_go, qfl_I, qfl_Z, qfl_L, qfl_R, qrI_i, qrL_l, qrV_v, qRcv_0, qRcv_s, eq_self, true_and, and_true, true_or, or_true, false_and, and_false, false_or, or_false, ite_true, if_true, if_false, Bool.true_or, Bool.false_or, Bool.or_false, beq_self_eq_true, Bool.false_eq_true, bX5_run_0, bX5_run_41, bX5_run_81, bX5_run_102, bX5_run_122, bX5_run_128, kX5_run_0, kX5_run_41, kX5_run_81, kX5_run_102, kX5_run_122, kX5_run_128]
    exact ⟨h, f⟩
  refine qV.go 30 [41, 81, 122, 128] ok_63 ?_
  simp only [qW_nop, qW_iconst, qW_iconstm, qW_bipush, qW_sipush, qW_ldc, qW_iloadn, qW_iload, qW_aloadn, qW_istore, qW_iinc, qW_iadd, qW_dup, qW_ifeq, qW_icne, qW_iclt, qW_icge, qW_goto, qW_getf, qW_iald, qW_vret, qW_cv2_0, qW_cv3_0, qW_cv4_0, qW_putf0, qW_putf3, Nat.reduceAdd, Nat.reduceMul, Nat.reduceBEq, Nat.reduceEqDiff, Nat.reduceLT, Nat.reduceLeDiff, Nat.zero_le, nI_add, nI_mul, nI_cl, qin_eq, qofI, qlg_0, qlg_s, qls_i0, qls_r0, qls_l0, qls_1, qls_2, qkl_i, qkl_r, qkl_l, qkl_n, qIsI_i, qIsL_l, qIsR_r, qint_i, qil_i, qil_r, qil_l, qf4_0, qf4_1, qf4_2, qf4_3, qf2_0, qf2_1, qcs_n, qcs_i, qcs_r, qcs_l, qst_n, qst_c, qJ_0, qJ_st, qJ_go, qfl_I, qfl_Z, qfl_L, qfl_R, qrI_i, qrL_l, qrV_v, qRcv_0, qRcv_s, eq_self, true_and, and_true, true_or, or_true, false_and, and_false, false_or, or_false, ite_true, if_true, if_false, Bool.true_or, Bool.false_or, Bool.or_false, beq_self_eq_true, Bool.false_eq_true, bX5_run_0, bX5_run_41, bX5_run_81, bX5_run_102, bX5_run_122, bX5_run_128, kX5_run_0, kX5_run_41, kX5_run_81, kX5_run_102, kX5_run_122, kX5_run_128, qK_80, qR_80_7, qK_81, qK_74, qR_74_3, qK_75, qR_74_4, qK_76, qR_74_5, qK_77, qR_74_6, qK_78, qR_74_7, qK_79]
  simp (disch := omega) only [nI_leI, nI_ltI, nI_eq, nI_cl, qin_eq, nI_add, nI_mul, qb_z, qb_t, qb_f, nI_ne0', Nat.reduceAdd, Bool.false_eq_true, if_false, if_true, true_and, and_true, Nat.reduceEqDiff, not_true_eq_false, not_false_eq_true, false_implies, true_implies, ite_true, ite_false]
  refine ⟨fun g => by omega, fun _ => ?_⟩
  refine qBI.fn (x_hasLine (Or.inr (Or.inl rfl)) hV.1 hn _) (by decide) ?_
  rw [hx]
  simp (disch := omega) only [nI_leI, nI_ltI, nI_eq, nI_cl, qin_eq, nI_add, nI_mul, qb_z, qb_t, qb_f, nI_ne0', Nat.reduceAdd, Bool.false_eq_true, if_false, if_true, true_and, and_true, Nat.reduceEqDiff, not_true_eq_false, not_false_eq_true, false_implies, true_implies, ite_true, ite_false]
  exact fin
set_option maxRecDepth 20000 in
theorem run_go {σ : qSg} {r n st : Nat} {W : Nat → Nat → Nat} {s : zL} {x3 : Int32} (hr : zCb r) (hV : zXW σ 74 W n st) :
    ∀ m (s1 : zL) (σ1 : qSg) (i : Nat), zphi W n s1 ≤ m → i + zphi W n s1 ≤ 60000 → zXl σ1 r s1 → zLW W n s1 → s1.2.2 8 ≠ 1 → zfin W n s1 = zfin W n s → zF (zPlf r) σ σ1 →
    qV 63 7 (.inr (.inr fun σ' => zXl σ' r (zfin W n s) ∧ zF (zPlf r) σ σ')) 41 [some (qr 80), some (qr r), some (qr 74), some (qi x3), some (qi (nI (s1.2.2 7))), some (qi (nI i))] [] σ1 := by
  intro m
  induction m with
  | zero =>
    intro s1 σ1 i hm hmi h1 hs1 h81
    have : zphi W n s1 = (300 - s1.2.2 5) * 161 + zpsi W n s1 + 1 := if_neg h81
    omega
  | succ m ih =>
    intro s1 σ1 i hm hmi h1 hs1 h81 e1 f1
    have hn := hs1.2.1.1
    have h7 := hs1.2.2.2.2.2.2.2.2.2.2.2.1
    have hst := hs1.2.2.2.2.1
    have hlt := zphi_lt hs1 h81
    have hnx := zLW_move hs1
    have hfi := zfin_s hs1 h81
    have hV1 := hV.lf hr f1
    have hpos : 1 ≤ zphi W n s1 := by omega
    refine qV.go 30 [41, 81, 122, 128] ok_63 ?_
    simp only [qW_nop, qW_iconst, qW_iconstm, qW_bipush, qW_sipush, qW_ldc, qW_iloadn, qW_iload, qW_aloadn, qW_istore, qW_iinc, qW_iadd, qW_dup, qW_ifeq, qW_icne, qW_iclt, qW_icge, qW_goto, qW_getf, qW_iald, qW_vret, qW_cv2_0, qW_cv3_0, qW_cv4_0, qW_putf0, qW_putf3, Nat.reduceAdd, Nat.reduceMul, Nat.reduceBEq, Nat.reduceEqDiff, Nat.reduceLT, Nat.reduceLeDiff, Nat.zero_le, nI_add, nI_mul, nI_cl, qin_eq, qofI, qlg_0, qlg_s, qls_i0, qls_r0, qls_l0, qls_1, qls_2, qkl_i, qkl_r, qkl_l, qkl_n, qIsI_i, qIsL_l, qIsR_r, qint_i, qil_i, qil_r, qil_l, qf4_0, qf4_1, qf4_2, qf4_3, qf2_0, qf2_1, qcs_n, qcs_i, qcs_r, qcs_l, qst_n, qst_c, qJ_0, qJ_st, qJ_go, qfl_I, qfl_Z, qfl_L, qfl_R, qrI_i, qrL_l, qrV_v, qRcv_0, qRcv_s, eq_self, true_and, and_true, true_or, or_true, false_and, and_false, false_or, or_false, ite_true, if_true, if_false, Bool.true_or, Bool.false_or, Bool.or_false, beq_self_eq_true, Bool.false_eq_true, bX5_run_0, bX5_run_41, bX5_run_81, bX5_run_102, bX5_run_122, bX5_run_128, kX5_run_0, kX5_run_41, kX5_run_81, kX5_run_102, kX5_run_122, kX5_run_128, qK_80, qR_80_7, qK_81, qK_74, qR_74_3, qK_75, qR_74_4, qK_76, qR_74_5, qK_77, qR_74_6, qK_78, qR_74_7, qK_79]
    simp (disch := omega) only [nI_leI, nI_ltI, nI_eq, nI_cl, qin_eq, nI_add, nI_mul, qb_z, qb_t, qb_f, nI_ne0', Nat.reduceAdd, Bool.false_eq_true, if_false, if_true, true_and, and_true, Nat.reduceEqDiff, not_true_eq_false, not_false_eq_true, false_implies, true_implies, ite_true, ite_false]
    refine ⟨fun g => by omega, fun _ => ?_⟩
    refine qBI.fn (x_hasLine (Or.inr (Or.inl rfl)) hV1.1 hn _) (by decide) ?_
    by_cases hk : n ≤ s1.2.2 7
    · have e : zmove1 W n s1 = zsR s1 8 1 := if_pos hk
      have ez : zrg (nI (s1.2.2 7)) n = false := by
        unfold zrg
        rw [nI_t (by omega), decide_eq_false (p := ((s1.2.2 7 : Nat) : Int) < n) (by omega), Bool.and_false]
      rw [ez]
      simp (disch := omega) only [nI_leI, nI_ltI, nI_eq, nI_cl, qin_eq, nI_add, nI_mul, qb_z, qb_t, qb_f, nI_ne0', Nat.reduceAdd, Bool.false_eq_true, if_false, if_true, true_and, and_true, Nat.reduceEqDiff, not_true_eq_false, not_false_eq_true, false_implies, true_implies, ite_true, ite_false]
      refine qV.go 30 [9999] ok_63 ?_
      simp only [qW_nop, qW_iconst, qW_iconstm, qW_bipush, qW_sipush, qW_ldc, qW_iloadn, qW_iload, qW_aloadn, qW_istore, qW_iinc, qW_iadd, qW_dup, qW_ifeq, qW_icne, qW_iclt, qW_icge, qW_goto, qW_getf, qW_iald, qW_vret, qW_cv2_0, qW_cv3_0, qW_cv4_0, qW_putf0, qW_putf3, Nat.reduceAdd, Nat.reduceMul, Nat.reduceBEq, Nat.reduceEqDiff, Nat.reduceLT, Nat.reduceLeDiff, Nat.zero_le, nI_add, nI_mul, nI_cl, qin_eq, qofI, qlg_0, qlg_s, qls_i0, qls_r0, qls_l0, qls_1, qls_2, qkl_i, qkl_r, qkl_l, qkl_n, qIsI_i, qIsL_l, qIsR_r, qint_i, qil_i, qil_r, qil_l, qf4_0, qf4_1, qf4_2, qf4_3, qf2_0, qf2_1, qcs_n, qcs_i, qcs_r, qcs_l, qst_n, qst_c, qJ_0, qJ_st, qJ_go, qfl_I, qfl_Z, qfl_L, qfl_R, qrI_i, qrL_l, qrV_v, qRcv_0, qRcv_s, eq_self, true_and, and_true, true_or, or_true, false_and, and_false, false_or, or_false, ite_true, if_true, if_false, Bool.true_or, Bool.false_or, Bool.or_false, beq_self_eq_true, Bool.false_eq_true, bX5_run_0, bX5_run_41, bX5_run_81, bX5_run_102, bX5_run_122, bX5_run_128, kX5_run_0, kX5_run_41, kX5_run_81, kX5_run_102, kX5_run_122, kX5_run_128]
      rw [← e1, hfi, e, zfin_h zsR_e]
      exact ⟨h1.k (by decide), f1⟩
    · have hk' : s1.2.2 7 < n := by omega
      have hz := zwk_v (hs1.2.1.2.1 _ hk')
      have ek : σ1.1 75 (s1.2.2 7) = nI (zwk (W (s1.2.2 7))) := (hV1.2.2 _ hk').1
      have bd := hz.lt
      have z20 := hz.2.2.2.2.2.2.2.2.1
      rw [zrg_k hk' (by omega)]
      simp (disch := omega) only [nI_leI, nI_ltI, nI_eq, nI_cl, qin_eq, nI_add, nI_mul, qb_z, qb_t, qb_f, nI_ne0', Nat.reduceAdd, Bool.false_eq_true, if_false, if_true, true_and, and_true, Nat.reduceEqDiff, not_true_eq_false, not_false_eq_true, false_implies, true_implies, ite_true, ite_false]
      rw [ek]
      simp (disch := omega) only [nI_leI, nI_ltI, nI_eq, nI_cl, qin_eq, nI_add, nI_mul, qb_z, qb_t, qb_f, nI_ne0', Nat.reduceAdd, Bool.false_eq_true, if_false, if_true, true_and, and_true, Nat.reduceEqDiff, not_true_eq_false, not_false_eq_true, false_implies, true_implies, ite_true, ite_false]
      refine And.symm ⟨fun h17 => ?_, fun h17 => ?_⟩
      · have h17 := z20.mp h17
        have e : zmove1 W n s1 = zendm W s1 := by unfold zmove1; rw [if_neg hk, if_pos h17]
        rw [e] at hlt hnx hfi
        refine qBI.of (x_behindEnd hr h1 hV1 hs1 hk' rfl h17) (by decide) (fun v σ2 g2 => ?_)
        obtain ⟨rfl, X2, f2⟩ := g2
        refine qV.go 30 [41] ok_63 ?_
        simp only [qW_nop, qW_iconst, qW_iconstm, qW_bipush, qW_sipush, qW_ldc, qW_iloadn, qW_iload, qW_aloadn, qW_istore, qW_iinc, qW_iadd, qW_dup, qW_ifeq, qW_icne, qW_iclt, qW_icge, qW_goto, qW_getf, qW_iald, qW_vret, qW_cv2_0, qW_cv3_0, qW_cv4_0, qW_putf0, qW_putf3, Nat.reduceAdd, Nat.reduceMul, Nat.reduceBEq, Nat.reduceEqDiff, Nat.reduceLT, Nat.reduceLeDiff, Nat.zero_le, nI_add, nI_mul, nI_cl, qin_eq, qofI, qlg_0, qlg_s, qls_i0, qls_r0, qls_l0, qls_1, qls_2, qkl_i, qkl_r, qkl_l, qkl_n, qIsI_i, qIsL_l, qIsR_r, qint_i, qil_i, qil_r, qil_l, qf4_0, qf4_1, qf4_2, qf4_3, qf2_0, qf2_1, qcs_n, qcs_i, qcs_r, qcs_l, qst_n, qst_c, qJ_0, qJ_st, qJ_go, qfl_I, qfl_Z, qfl_L, qfl_R, qrI_i, qrL_l, qrV_v, qRcv_0, qRcv_s, eq_self, true_and, and_true, true_or, or_true, false_and, and_false, false_or, or_false, ite_true, if_true, if_false, Bool.true_or, Bool.false_or, Bool.or_false, beq_self_eq_true, Bool.false_eq_true, bX5_run_0, bX5_run_41, bX5_run_81, bX5_run_102, bX5_run_122, bX5_run_128, kX5_run_0, kX5_run_41, kX5_run_81, kX5_run_102, kX5_run_122, kX5_run_128]
        exact ih _ σ2 (i + 1) (by omega) (by omega) X2 hnx (by rw [zendm_r _ _ (by decide)]; exact h81) (by rw [← hfi]; exact e1) (f1.tr f2)
      · have h17 : W (s1.2.2 7) 0 ≠ 17 := fun hh => h17 (z20.mpr hh)
        refine qV.go 30 [122] ok_63 ?_
        simp only [qW_nop, qW_iconst, qW_iconstm, qW_bipush, qW_sipush, qW_ldc, qW_iloadn, qW_iload, qW_aloadn, qW_istore, qW_iinc, qW_iadd, qW_dup, qW_ifeq, qW_icne, qW_iclt, qW_icge, qW_goto, qW_getf, qW_iald, qW_vret, qW_cv2_0, qW_cv3_0, qW_cv4_0, qW_putf0, qW_putf3, Nat.reduceAdd, Nat.reduceMul, Nat.reduceBEq, Nat.reduceEqDiff, Nat.reduceLT, Nat.reduceLeDiff, Nat.zero_le, nI_add, nI_mul, nI_cl, qin_eq, qofI, qlg_0, qlg_s, qls_i0, qls_r0, qls_l0, qls_1, qls_2, qkl_i, qkl_r, qkl_l, qkl_n, qIsI_i, qIsL_l, qIsR_r, qint_i, qil_i, qil_r, qil_l, qf4_0, qf4_1, qf4_2, qf4_3, qf2_0, qf2_1, qcs_n, qcs_i, qcs_r, qcs_l, qst_n, qst_c, qJ_0, qJ_st, qJ_go, qfl_I, qfl_Z, qfl_L, qfl_R, qrI_i, qrL_l, qrV_v, qRcv_0, qRcv_s, eq_self, true_and, and_true, true_or, or_true, false_and, and_false, false_or, or_false, ite_true, if_true, if_false, Bool.true_or, Bool.false_or, Bool.or_false, beq_self_eq_true, Bool.false_eq_true, bX5_run_0, bX5_run_41, bX5_run_81, bX5_run_102, bX5_run_122, bX5_run_128, kX5_run_0, kX5_run_41, kX5_run_81, kX5_run_102, kX5_run_122, kX5_run_128, qK_80, qR_80_7, qK_81, qK_74, qR_74_3, qK_75, qR_74_4, qK_76, qR_74_5, qK_77, qR_74_6, qK_78, qR_74_7, qK_79]
        rw [h1.2.1.1]
        simp (disch := omega) only [nI_leI, nI_ltI, nI_eq, nI_cl, qin_eq, nI_add, nI_mul, qb_z, qb_t, qb_f, nI_ne0', Nat.reduceAdd, Bool.false_eq_true, if_false, if_true, true_and, and_true, Nat.reduceEqDiff, not_true_eq_false, not_false_eq_true, false_implies, true_implies, ite_true, ite_false]
        refine And.symm ⟨fun h3 => ?_, fun h3 => ?_⟩
        · have h3' : s1.2.2 5 = 300 := by omega
          have e : zmove1 W n s1 = zsR (zsR s1 4 1) 8 1 := by unfold zmove1; rw [if_neg hk, if_neg h17, if_pos h3']
          rw [e, zfin_h zsR_e] at hfi
          have X2 := (h1.r hr (i := 5) (j := 4) (v := 1) (by unfold zrm; omega)).k (j := 8) (v := 1) (by decide)
          have f2 : zF (zPlf r) σ (qwi σ1 80 5 (nI 1)) := f1.tr (zPlf_r (by decide))
          rw [← hfi, e1] at X2
          refine qV.go 30 [41] ok_63 ?_
          simp only [qW_nop, qW_iconst, qW_iconstm, qW_bipush, qW_sipush, qW_ldc, qW_iloadn, qW_iload, qW_aloadn, qW_istore, qW_iinc, qW_iadd, qW_dup, qW_ifeq, qW_icne, qW_iclt, qW_icge, qW_goto, qW_getf, qW_iald, qW_vret, qW_cv2_0, qW_cv3_0, qW_cv4_0, qW_putf0, qW_putf3, Nat.reduceAdd, Nat.reduceMul, Nat.reduceBEq, Nat.reduceEqDiff, Nat.reduceLT, Nat.reduceLeDiff, Nat.zero_le, nI_add, nI_mul, nI_cl, qin_eq, qofI, qlg_0, qlg_s, qls_i0, qls_r0, qls_l0, qls_1, qls_2, qkl_i, qkl_r, qkl_l, qkl_n, qIsI_i, qIsL_l, qIsR_r, qint_i, qil_i, qil_r, qil_l, qf4_0, qf4_1, qf4_2, qf4_3, qf2_0, qf2_1, qcs_n, qcs_i, qcs_r, qcs_l, qst_n, qst_c, qJ_0, qJ_st, qJ_go, qfl_I, qfl_Z, qfl_L, qfl_R, qrI_i, qrL_l, qrV_v, qRcv_0, qRcv_s, eq_self, true_and, and_true, true_or, or_true, false_and, and_false, false_or, or_false, ite_true, if_true, if_false, Bool.true_or, Bool.false_or, Bool.or_false, beq_self_eq_true, Bool.false_eq_true, bX5_run_0, bX5_run_41, bX5_run_81, bX5_run_102, bX5_run_122, bX5_run_128, kX5_run_0, kX5_run_41, kX5_run_81, kX5_run_102, kX5_run_122, kX5_run_128]
          exact run_done hn (hV.lf hr f2) X2 f2 (zrg_m1 n) (by omega)
        · have hs2 := zL5 hs1 (by omega)
          have X2 := h1.r hr (i := 0) (j := 5) (v := s1.2.2 5 + 1) (by unfold zrm; omega)
          have f2 : zF (zPlf r) σ (qwi σ1 80 0 (nI (s1.2.2 5 + 1))) := f1.tr (zPlf_r (by decide))
          refine qBI.of (x_behindStep hr X2 (hV.lf hr f2) hs2 hk' h17) (by decide) (fun v σ2 g2 => ?_)
          unfold zXbh at g2
          by_cases h4 : W (s1.2.2 7) 0 = 18
          · rw [if_pos h4] at g2
            obtain ⟨rfl, rfl⟩ := g2
            have e : zmove1 W n s1 = zsR (zsR s1 5 (s1.2.2 5 + 1)) 8 1 := by unfold zmove1; rw [if_neg hk, if_neg h17, if_neg (by omega), if_pos h4]
            rw [e, zfin_h zsR_e] at hfi
            have X3 := X2.k (j := 8) (v := 1) (by decide)
            rw [← hfi, e1] at X3
            refine qV.go 30 [41] ok_63 ?_
            simp only [qW_nop, qW_iconst, qW_iconstm, qW_bipush, qW_sipush, qW_ldc, qW_iloadn, qW_iload, qW_aloadn, qW_istore, qW_iinc, qW_iadd, qW_dup, qW_ifeq, qW_icne, qW_iclt, qW_icge, qW_goto, qW_getf, qW_iald, qW_vret, qW_cv2_0, qW_cv3_0, qW_cv4_0, qW_putf0, qW_putf3, Nat.reduceAdd, Nat.reduceMul, Nat.reduceBEq, Nat.reduceEqDiff, Nat.reduceLT, Nat.reduceLeDiff, Nat.zero_le, nI_add, nI_mul, nI_cl, qin_eq, qofI, qlg_0, qlg_s, qls_i0, qls_r0, qls_l0, qls_1, qls_2, qkl_i, qkl_r, qkl_l, qkl_n, qIsI_i, qIsL_l, qIsR_r, qint_i, qil_i, qil_r, qil_l, qf4_0, qf4_1, qf4_2, qf4_3, qf2_0, qf2_1, qcs_n, qcs_i, qcs_r, qcs_l, qst_n, qst_c, qJ_0, qJ_st, qJ_go, qfl_I, qfl_Z, qfl_L, qfl_R, qrI_i, qrL_l, qrV_v, qRcv_0, qRcv_s, eq_self, true_and, and_true, true_or, or_true, false_and, and_false, false_or, or_false, ite_true, if_true, if_false, Bool.true_or, Bool.false_or, Bool.or_false, beq_self_eq_true, Bool.false_eq_true, bX5_run_0, bX5_run_41, bX5_run_81, bX5_run_102, bX5_run_122, bX5_run_128, kX5_run_0, kX5_run_41, kX5_run_81, kX5_run_102, kX5_run_122, kX5_run_128]
            exact run_done hn (hV.lf hr f2) X3 f2 (zrg_m1 n) (by omega)
          · rw [if_neg h4] at g2
            obtain ⟨rfl, X3, f3⟩ := g2
            have e : zmove1 W n s1 = zbeh W (s1.2.2 7) (zdo W (s1.2.2 7) (zsR s1 5 (s1.2.2 5 + 1))) := by
              unfold zmove1
              rw [if_neg hk, if_neg h17, if_neg (by omega), if_neg h4]
            rw [e] at hlt hnx hfi
            refine qV.go 30 [41] ok_63 ?_
            simp only [qW_nop, qW_iconst, qW_iconstm, qW_bipush, qW_sipush, qW_ldc, qW_iloadn, qW_iload, qW_aloadn, qW_istore, qW_iinc, qW_iadd, qW_dup, qW_ifeq, qW_icne, qW_iclt, qW_icge, qW_goto, qW_getf, qW_iald, qW_vret, qW_cv2_0, qW_cv3_0, qW_cv4_0, qW_putf0, qW_putf3, Nat.reduceAdd, Nat.reduceMul, Nat.reduceBEq, Nat.reduceEqDiff, Nat.reduceLT, Nat.reduceLeDiff, Nat.zero_le, nI_add, nI_mul, nI_cl, qin_eq, qofI, qlg_0, qlg_s, qls_i0, qls_r0, qls_l0, qls_1, qls_2, qkl_i, qkl_r, qkl_l, qkl_n, qIsI_i, qIsL_l, qIsR_r, qint_i, qil_i, qil_r, qil_l, qf4_0, qf4_1, qf4_2, qf4_3, qf2_0, qf2_1, qcs_n, qcs_i, qcs_r, qcs_l, qst_n, qst_c, qJ_0, qJ_st, qJ_go, qfl_I, qfl_Z, qfl_L, qfl_R, qrI_i, qrL_l, qrV_v, qRcv_0, qRcv_s, eq_self, true_and, and_true, true_or, or_true, false_and, and_false, false_or, or_false, ite_true, if_true, if_false, Bool.true_or, Bool.false_or, Bool.or_false, beq_self_eq_true, Bool.false_eq_true, bX5_run_0, bX5_run_41, bX5_run_81, bX5_run_102, bX5_run_122, bX5_run_128, kX5_run_0, kX5_run_41, kX5_run_81, kX5_run_102, kX5_run_122, kX5_run_128]
            refine ih _ σ2 (i + 1) (by omega) (by omega) X3 hnx ?_ (by rw [← hfi]; exact e1) (f2.tr f3)
            rw [zbeh_r _ _ _ (by decide) (by decide), zdo_r _ _ _ (by decide) (by decide) (by decide) (by decide), zsR_n (by decide)]
            exact h81
set_option maxRecDepth 20000 in
theorem x_run {σ : qSg} {r n st seed : Nat} {W : Nat → Nat → Nat} {C : zC} {L : Nat → Nat} (hr : zCb r) (hX : zX σ r C) (hL0 : ∀ j, j < 60 → σ.1 81 j = nI (L j)) (hV : zXW σ 74 W n st) (hst : zLW W n (zst0 C L seed)) : qCV 7 63 [qr 80, qr r, qr 74, qi (nI seed)] σ (fun σ' => zXl σ' r (zfin W n (zst0 C L seed)) ∧ zF (zPlf r) σ σ') := by
  refine qCV.of [some (qr 80), some (qr r), some (qr 74), some (qi (nI seed)), none, none] ok_63 (Nat.le_of_ble_eq_true rfl) rfl ?_
  refine qV.go 30 [41] ok_63 ?_
  simp only [qW_nop, qW_iconst, qW_iconstm, qW_bipush, qW_sipush, qW_ldc, qW_iloadn, qW_iload, qW_aloadn, qW_istore, qW_iinc, qW_iadd, qW_dup, qW_ifeq, qW_icne, qW_iclt, qW_icge, qW_goto, qW_getf, qW_iald, qW_vret, qW_cv2_0, qW_cv3_0, qW_cv4_0, qW_putf0, qW_putf3, Nat.reduceAdd, Nat.reduceMul, Nat.reduceBEq, Nat.reduceEqDiff, Nat.reduceLT, Nat.reduceLeDiff, Nat.zero_le, nI_add, nI_mul, nI_cl, qin_eq, qofI, qlg_0, qlg_s, qls_i0, qls_r0, qls_l0, qls_1, qls_2, qkl_i, qkl_r, qkl_l, qkl_n, qIsI_i, qIsL_l, qIsR_r, qint_i, qil_i, qil_r, qil_l, qf4_0, qf4_1, qf4_2, qf4_3, qf2_0, qf2_1, qcs_n, qcs_i, qcs_r, qcs_l, qst_n, qst_c, qJ_0, qJ_st, qJ_go, qfl_I, qfl_Z, qfl_L, qfl_R, qrI_i, qrL_l, qrV_v, qRcv_0, qRcv_s, eq_self, true_and, and_true, true_or, or_true, false_and, and_false, false_or, or_false, ite_true, if_true, if_false, Bool.true_or, Bool.false_or, Bool.or_false, beq_self_eq_true, Bool.false_eq_true, bX5_run_0, bX5_run_41, bX5_run_81, bX5_run_102, bX5_run_122, bX5_run_128, kX5_run_0, kX5_run_41, kX5_run_81, kX5_run_102, kX5_run_122, kX5_run_128, qK_80, qR_80_7, qK_81]
  have F : zF (zPlf r) σ (qwi (qwi (qwi (qwi (qwi (qwi (qwi σ 80 0 (nI 0)) 80 1 (nI 0)) 80 2 (nI 0)) 80 3 (nI 0)) 80 4 (nI 0)) 80 5 (nI 0)) 80 6 (nI seed)) := ((((((zPlf_r (by decide)).tr (zPlf_r (by decide))).tr (zPlf_r (by decide))).tr (zPlf_r (by decide))).tr (zPlf_r (by decide))).tr (zPlf_r (by decide))).tr (zPlf_r (by decide))
  have X : zXl (qwi (qwi (qwi (qwi (qwi (qwi (qwi σ 80 0 (nI 0)) 80 1 (nI 0)) 80 2 (nI 0)) 80 3 (nI 0)) 80 4 (nI 0)) 80 5 (nI 0)) 80 6 (nI seed)) r (zst0 C L seed) := by
    refine ⟨hX.fr fun a j h1 h2 => ?_, ⟨?_, ?_, ?_, ?_, ?_, ?_, ?_⟩, fun j hj => ?_⟩
    · unfold zCb at hr
      rw [qwi_1, if_neg (by omega), qwi_1, if_neg (by omega), qwi_1, if_neg (by omega), qwi_1, if_neg (by omega), qwi_1, if_neg (by omega), qwi_1, if_neg (by omega), qwi_1, if_neg (by omega)]
    · rfl
    · rfl
    · rfl
    · rfl
    · rfl
    · rfl
    · rfl
    · rw [qwi_1, if_neg (by omega), qwi_1, if_neg (by omega), qwi_1, if_neg (by omega), qwi_1, if_neg (by omega), qwi_1, if_neg (by omega), qwi_1, if_neg (by omega), qwi_1, if_neg (by omega)]
      exact hL0 j hj
  have hp := zpsi_le (W := W) (n := n) (s := zst0 C L seed) hst.2.2.2.2.2.2.2.2.2.2.1
  have h8 : (zst0 C L seed).2.2 8 ≠ 1 := by simp [zst0]
  have h5 : (zst0 C L seed).2.2 5 = 0 := rfl
  have hph : zphi W n (zst0 C L seed) = (300 - (zst0 C L seed).2.2 5) * 161 + zpsi W n (zst0 C L seed) + 1 := if_neg h8
  rw [h5] at hph
  exact run_go (s := zst0 C L seed) hr hV _ (zst0 C L seed) _ 0 (Nat.le_refl _) (by omega) X hst h8 rfl F
