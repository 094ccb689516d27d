/-! the reference: the weeks' orders -/
set_option maxRecDepth 20000 in
theorem m_weekOrder {σ : qSg} {B : Nat → Nat} {N : Nat → List Nat} {C : zC} {n p r k : Nat} (hB : zBW B n) (hp : p ≤ n) (h : zPd σ B n p) (hC : zM σ 0 C) (hW : zW C) (hb : zMN σ 0 (C 0 0) N) (hN : zNW (C 0 0) N) (hk : k = 3 ∨ (10 ≤ k ∧ k ≤ 18)) (hr : 1912 ≤ r) (hr2 : r + 6 ≤ 3088) (hw : zRw σ r (zr6 k 0 0 0 0)) :
    qCI 10 256 [qr 139, qi (nI k), qi (nI r)] σ (zRo B n r (zpRow B N (C 0 0) (C 0 2 * C 0 3) k p) σ) := by
  have hm := hW.1
  have hc := zSW_cells hW
  have bo : zBo σ (C 0 0) N := ⟨zM_s hC 0 (by decide), hb⟩
  have six : ∀ i, i < 6 → i = 0 ∨ i = 1 ∨ i = 2 ∨ i = 3 ∨ i = 4 ∨ i = 5 := fun i hi => by omega
  refine qCI.of [some (qr 139), some (qi (nI k)), some (qi (nI r))] ok_256 (Nat.le_of_ble_eq_true rfl) rfl ?_
  refine qV.go 30 [72, 83, 122, 130, 163, 174, 180] ok_256 ?_
  simp only [qW_nop, qW_iconst, qW_bipush, qW_iloadn, qW_aloadn, qW_iadd, qW_isub, qW_ifeq, qW_goto, qW_tsw, qW_cv1_0, qW_cv2_0, qW_cv4_0, qW_iret1, Nat.reduceAdd, Nat.reduceMul, Nat.reduceBEq, Nat.reduceEqDiff, Nat.reduceLT, Nat.reduceLeDiff, Nat.zero_le, nI_add, nI_mul, nI_cl, qin_eq, qofI, qlg_0, qlg_s, qls_i0, qls_r0, qls_l0, qls_1, qls_2, qkl_i, qkl_r, qkl_l, qkl_n, qIsI_i, qIsL_l, qIsR_r, qint_i, qil_i, qil_r, qil_l, qf4_0, qf4_1, qf4_2, qf4_3, qf2_0, qf2_1, qcs_n, qcs_i, qcs_r, qcs_l, qst_n, qst_c, qJ_0, qJ_st, qJ_go, qfl_I, qfl_Z, qfl_L, qfl_R, qrI_i, qrL_l, qrV_v, qRcv_0, qRcv_s, eq_self, true_and, and_true, true_or, or_true, false_and, and_false, false_or, or_false, ite_true, if_true, if_false, Bool.true_or, Bool.false_or, Bool.or_false, beq_self_eq_true, Bool.false_eq_true, bX12_weekOrder_0, bX12_weekOrder_72, bX12_weekOrder_83, bX12_weekOrder_120, bX12_weekOrder_121, bX12_weekOrder_122, bX12_weekOrder_130, bX12_weekOrder_161, bX12_weekOrder_162, bX12_weekOrder_163, bX12_weekOrder_174, bX12_weekOrder_180, kX12_weekOrder_0, kX12_weekOrder_72, kX12_weekOrder_83, kX12_weekOrder_120, kX12_weekOrder_121, kX12_weekOrder_122, kX12_weekOrder_130, kX12_weekOrder_161, kX12_weekOrder_162, kX12_weekOrder_163, kX12_weekOrder_174, kX12_weekOrder_180, qK_139, qR_139_0, qK_140, qR_139_1, qK_141, qR_139_5, qK_142, qR_139_6, qK_143, qR_139_7, qK_144, qR_139_8, qK_145, qR_139_9, qK_146, qR_139_21, qK_147, qR_139_25, qK_148, qR_139_30, qK_149, qR_139_31, qK_150, qR_139_33, qK_151, qR_139_34, qK_152, qR_139_35, qK_153, qR_139_36, qK_154, qR_139_39, qK_155, qR_139_40, qK_156, qR_139_41, qK_157]
  rw [qsw]
  simp only [qsl, nI_t (show k < 2147483648 by omega)]
  have rest : (k = 11 ∨ k = 14 ∨ k = 17 ∨ k = 18) → qV 256 10 (.inl (zRo B n r (zpRow B N (C 0 0) (C 0 2 * C 0 3) k p) σ)) 180 [some (qr 139), some (qi (nI k)), some (qi (nI r))] [] σ := by
    intro e
    refine qV.go 30 [9999] ok_256 ?_
    simp only [qW_nop, qW_iconst, qW_bipush, qW_iloadn, qW_aloadn, qW_iadd, qW_isub, qW_ifeq, qW_goto, qW_tsw, qW_cv1_0, qW_cv2_0, qW_cv4_0, qW_iret1, Nat.reduceAdd, Nat.reduceMul, Nat.reduceBEq, Nat.reduceEqDiff, Nat.reduceLT, Nat.reduceLeDiff, Nat.zero_le, nI_add, nI_mul, nI_cl, qin_eq, qofI, qlg_0, qlg_s, qls_i0, qls_r0, qls_l0, qls_1, qls_2, qkl_i, qkl_r, qkl_l, qkl_n, qIsI_i, qIsL_l, qIsR_r, qint_i, qil_i, qil_r, qil_l, qf4_0, qf4_1, qf4_2, qf4_3, qf2_0, qf2_1, qcs_n, qcs_i, qcs_r, qcs_l, qst_n, qst_c, qJ_0, qJ_st, qJ_go, qfl_I, qfl_Z, qfl_L, qfl_R, qrI_i, qrL_l, qrV_v, qRcv_0, qRcv_s, eq_self, true_and, and_true, true_or, or_true, false_and, and_false, false_or, or_false, ite_true, if_true, if_false, Bool.true_or, Bool.false_or, Bool.or_false, beq_self_eq_true, Bool.false_eq_true, bX12_weekOrder_0, bX12_weekOrder_72, bX12_weekOrder_83, bX12_weekOrder_120, bX12_weekOrder_121, bX12_weekOrder_122, bX12_weekOrder_130, bX12_weekOrder_161, bX12_weekOrder_162, bX12_weekOrder_163, bX12_weekOrder_174, bX12_weekOrder_180, kX12_weekOrder_0, kX12_weekOrder_72, kX12_weekOrder_83, kX12_weekOrder_120, kX12_weekOrder_121, kX12_weekOrder_122, kX12_weekOrder_130, kX12_weekOrder_161, kX12_weekOrder_162, kX12_weekOrder_163, kX12_weekOrder_174, kX12_weekOrder_180, qK_139, qR_139_0, qK_140, qR_139_1, qK_141, qR_139_5, qK_142, qR_139_6, qK_143, qR_139_7, qK_144, qR_139_8, qK_145, qR_139_9, qK_146, qR_139_21, qK_147, qR_139_25, qK_148, qR_139_30, qK_149, qR_139_31, qK_150, qR_139_33, qK_151, qR_139_34, qK_152, qR_139_35, qK_153, qR_139_36, qK_154, qR_139_39, qK_155, qR_139_40, qK_156, qR_139_41, qK_157]
    exact ⟨zPo_r (by unfold zpRow; rw [if_neg (by omega), if_neg (by omega), if_neg (by omega), if_neg (by omega), if_neg (by omega), if_neg (by omega)]) rfl ⟨h, hw⟩, zF.rf⟩
  have no : ∀ {t : Prop}, (¬ (k = 3 ∨ (10 ≤ k ∧ k ≤ 18))) → t := fun hh => absurd hk hh
  have one : ∀ lo hi, lo < 100000 → hi < 100000 → zpRow B N (C 0 0) (C 0 2 * C 0 3) k p = (zbd (zpN B lo hi p) fun a => .inr (zr6 k a.1 0 0 0, a.2)) → qBI 10 238 [qr 139, qi (nI (r + 1)), qi (nI lo), qi (nI hi)] σ (fun x σ' => (x = nI 0 ∨ x = nI 1) ∧ zRo B n r (zpRow B N (C 0 0) (C 0 2 * C 0 3) k p) σ x σ') := by
    intro lo hi hlo hhi eR
    refine qBI.of (m_number hB hp h (t := r + 1) (lo := lo) (hi := hi) (by omega) hlo hhi) (by decide) (fun x σ1 g => ?_)
    obtain ⟨g, f1⟩ := g
    rcases zPo_c g with ⟨e, he, rfl, hf⟩ | ⟨v, hv, rfl, v1, v2⟩
    · exact ⟨Or.inl rfl, zPo_l (by rw [eR, he]; rfl) rfl hf, zPrw_t f1 (by omega) (by omega)⟩
    · refine ⟨Or.inr rfl, zPo_r (by rw [eR, hv]; rfl) rfl ⟨v1, (hw.set f1 v2).eq (fun i hi => ?_)⟩, zPrw_t f1 (by omega) (by omega)⟩
      rcases six i hi with rfl | rfl | rfl | rfl | rfl | rfl <;> simp [zr6]
  refine ⟨fun h4 => ?_, fun h4 => ?_, fun h4 => no (by omega), fun h4 => no (by omega), fun h4 => no (by omega), fun h4 => no (by omega), fun h4 => no (by omega), fun h4 => no (by omega), fun h4 => ?_, fun h4 => ?_, fun h4 => ?_, fun h4 => ?_, fun h4 => ?_, fun h4 => ?_, fun h4 => ?_, trivial⟩
  · rw [qJ_st _ _ _ _ _ (by rfl)]
    exact rest (by omega)
  · -- a quarrel
    have e : k = 3 := by omega
    subst e
    have eR : zpRow B N (C 0 0) (C 0 2 * C 0 3) 3 p = zbd (zpB B N (C 0 0) p) fun a => zbd (zpB B N (C 0 0) a.2) fun b => zbd (zpN B 0 99 b.2) fun g => .inr (zr6 3 a.1 b.1 g.1 0, g.2) := by
      unfold zpRow
      rw [if_neg (by decide), if_pos rfl]
    rw [qJ_st _ _ _ _ _ (by rfl), eR]
    refine qV.go 30 [9999] ok_256 ?_
    simp only [qW_nop, qW_iconst, qW_bipush, qW_iloadn, qW_aloadn, qW_iadd, qW_isub, qW_ifeq, qW_goto, qW_tsw, qW_cv1_0, qW_cv2_0, qW_cv4_0, qW_iret1, Nat.reduceAdd, Nat.reduceMul, Nat.reduceBEq, Nat.reduceEqDiff, Nat.reduceLT, Nat.reduceLeDiff, Nat.zero_le, nI_add, nI_mul, nI_cl, qin_eq, qofI, qlg_0, qlg_s, qls_i0, qls_r0, qls_l0, qls_1, qls_2, qkl_i, qkl_r, qkl_l, qkl_n, qIsI_i, qIsL_l, qIsR_r, qint_i, qil_i, qil_r, qil_l, qf4_0, qf4_1, qf4_2, qf4_3, qf2_0, qf2_1, qcs_n, qcs_i, qcs_r, qcs_l, qst_n, qst_c, qJ_0, qJ_st, qJ_go, qfl_I, qfl_Z, qfl_L, qfl_R, qrI_i, qrL_l, qrV_v, qRcv_0, qRcv_s, eq_self, true_and, and_true, true_or, or_true, false_and, and_false, false_or, or_false, ite_true, if_true, if_false, Bool.true_or, Bool.false_or, Bool.or_false, beq_self_eq_true, Bool.false_eq_true, bX12_weekOrder_0, bX12_weekOrder_72, bX12_weekOrder_83, bX12_weekOrder_120, bX12_weekOrder_121, bX12_weekOrder_122, bX12_weekOrder_130, bX12_weekOrder_161, bX12_weekOrder_162, bX12_weekOrder_163, bX12_weekOrder_174, bX12_weekOrder_180, kX12_weekOrder_0, kX12_weekOrder_72, kX12_weekOrder_83, kX12_weekOrder_120, kX12_weekOrder_121, kX12_weekOrder_122, kX12_weekOrder_130, kX12_weekOrder_161, kX12_weekOrder_162, kX12_weekOrder_163, kX12_weekOrder_174, kX12_weekOrder_180, qK_139, qR_139_0, qK_140, qR_139_1, qK_141, qR_139_5, qK_142, qR_139_6, qK_143, qR_139_7, qK_144, qR_139_8, qK_145, qR_139_9, qK_146, qR_139_21, qK_147, qR_139_25, qK_148, qR_139_30, qK_149, qR_139_31, qK_150, qR_139_33, qK_151, qR_139_34, qK_152, qR_139_35, qK_153, qR_139_36, qK_154, qR_139_39, qK_155, qR_139_40, qK_156, qR_139_41, qK_157]
    refine qBI.of (m_boyTo hB hp h bo hN hm (t := r + 1) (by omega)) (by decide) (fun x σ1 g => ?_)
    obtain ⟨g, f1⟩ := g
    have F1 := zPrw_t (r := r) f1 (by omega) (by omega)
    rcases zPo_c g with ⟨e, he, rfl, hf⟩ | ⟨a, ha, rfl, p1, v1⟩
    · simp (disch := omega) only [nI_leI, nI_ltI, nI_eq, nI_cl, qin_eq, nI_add, nI_mul, qb_z, qb_t, qb_f, nI_ne0', Nat.reduceAdd, Bool.false_eq_true, if_false, if_true, true_and, and_true, Nat.reduceEqDiff, not_true_eq_false, not_false_eq_true, false_implies, true_implies, ite_true, ite_false]
      exact ⟨zPo_l (by rw [he]; rfl) rfl hf, F1⟩
    · simp (disch := omega) only [nI_leI, nI_ltI, nI_eq, nI_cl, qin_eq, nI_add, nI_mul, qb_z, qb_t, qb_f, nI_ne0', Nat.reduceAdd, Bool.false_eq_true, if_false, if_true, true_and, and_true, Nat.reduceEqDiff, not_true_eq_false, not_false_eq_true, false_implies, true_implies, ite_true, ite_false]
      have s1 := zpB_inr hB hp ha
      simp only [ha, zbd_r]
      have w1 := hw.set f1 v1
      refine qBI.of (m_boyTo hB s1.2.1 p1 (bo.f (zPto_at f1 (by omega)) f1.2) hN hm (t := r + 2) (by omega)) (by decide) (fun x σ2 g => ?_)
      obtain ⟨g, f2⟩ := g
      have F2 := F1.tr (zPrw_t (r := r) f2 (by omega) (by omega))
      rcases zPo_c g with ⟨e, he, rfl, hf⟩ | ⟨b, hb, rfl, p2, v2⟩
      · simp (disch := omega) only [nI_leI, nI_ltI, nI_eq, nI_cl, qin_eq, nI_add, nI_mul, qb_z, qb_t, qb_f, nI_ne0', Nat.reduceAdd, Bool.false_eq_true, if_false, if_true, true_and, and_true, Nat.reduceEqDiff, not_true_eq_false, not_false_eq_true, false_implies, true_implies, ite_true, ite_false]
        exact ⟨zPo_l (by rw [he]; rfl) rfl hf, F2⟩
      · simp (disch := omega) only [nI_leI, nI_ltI, nI_eq, nI_cl, qin_eq, nI_add, nI_mul, qb_z, qb_t, qb_f, nI_ne0', Nat.reduceAdd, Bool.false_eq_true, if_false, if_true, true_and, and_true, Nat.reduceEqDiff, not_true_eq_false, not_false_eq_true, false_implies, true_implies, ite_true, ite_false]
        have s2 := zpB_inr hB s1.2.1 hb
        simp only [hb, zbd_r]
        have w2 := w1.set f2 v2
        refine qBI.of (m_number hB s2.2.1 p2 (t := r + 3) (lo := 0) (hi := 99) (by omega) (by decide) (by decide)) (by decide) (fun x σ3 g => ?_)
        obtain ⟨g, f3⟩ := g
        have F3 := F2.tr (zPrw_t (r := r) f3 (by omega) (by omega))
        rcases zPo_c g with ⟨e, he, rfl, hf⟩ | ⟨c, hcc, rfl, p3, v3⟩
        · simp (disch := omega) only [nI_leI, nI_ltI, nI_eq, nI_cl, qin_eq, nI_add, nI_mul, qb_z, qb_t, qb_f, nI_ne0', Nat.reduceAdd, Bool.false_eq_true, if_false, if_true, true_and, and_true, Nat.reduceEqDiff, not_true_eq_false, not_false_eq_true, false_implies, true_implies, ite_true, ite_false]
          exact ⟨zPo_l (by rw [he]; rfl) rfl hf, F3⟩
        · simp (disch := omega) only [nI_leI, nI_ltI, nI_eq, nI_cl, qin_eq, nI_add, nI_mul, qb_z, qb_t, qb_f, nI_ne0', Nat.reduceAdd, Bool.false_eq_true, if_false, if_true, true_and, and_true, Nat.reduceEqDiff, not_true_eq_false, not_false_eq_true, false_implies, true_implies, ite_true, ite_false]
          refine ⟨zPo_r (by rw [hcc]; rfl) rfl ⟨p3, (w2.set f3 v3).eq (fun i hi => ?_)⟩, F3⟩
          rcases six i hi with rfl | rfl | rfl | rfl | rfl | rfl <;> simp [zr6]
  · have e : k = 10 := by omega
    subst e
    rw [qJ_st _ _ _ _ _ (by rfl)]
    refine qV.go 30 [9999] ok_256 ?_
    simp only [qW_nop, qW_iconst, qW_bipush, qW_iloadn, qW_aloadn, qW_iadd, qW_isub, qW_ifeq, qW_goto, qW_tsw, qW_cv1_0, qW_cv2_0, qW_cv4_0, qW_iret1, Nat.reduceAdd, Nat.reduceMul, Nat.reduceBEq, Nat.reduceEqDiff, Nat.reduceLT, Nat.reduceLeDiff, Nat.zero_le, nI_add, nI_mul, nI_cl, qin_eq, qofI, qlg_0, qlg_s, qls_i0, qls_r0, qls_l0, qls_1, qls_2, qkl_i, qkl_r, qkl_l, qkl_n, qIsI_i, qIsL_l, qIsR_r, qint_i, qil_i, qil_r, qil_l, qf4_0, qf4_1, qf4_2, qf4_3, qf2_0, qf2_1, qcs_n, qcs_i, qcs_r, qcs_l, qst_n, qst_c, qJ_0, qJ_st, qJ_go, qfl_I, qfl_Z, qfl_L, qfl_R, qrI_i, qrL_l, qrV_v, qRcv_0, qRcv_s, eq_self, true_and, and_true, true_or, or_true, false_and, and_false, false_or, or_false, ite_true, if_true, if_false, Bool.true_or, Bool.false_or, Bool.or_false, beq_self_eq_true, Bool.false_eq_true, bX12_weekOrder_0, bX12_weekOrder_72, bX12_weekOrder_83, bX12_weekOrder_120, bX12_weekOrder_121, bX12_weekOrder_122, bX12_weekOrder_130, bX12_weekOrder_161, bX12_weekOrder_162, bX12_weekOrder_163, bX12_weekOrder_174, bX12_weekOrder_180, kX12_weekOrder_0, kX12_weekOrder_72, kX12_weekOrder_83, kX12_weekOrder_120, kX12_weekOrder_121, kX12_weekOrder_122, kX12_weekOrder_130, kX12_weekOrder_161, kX12_weekOrder_162, kX12_weekOrder_163, kX12_weekOrder_174, kX12_weekOrder_180, qK_139, qR_139_0, qK_140, qR_139_1, qK_141, qR_139_5, qK_142, qR_139_6, qK_143, qR_139_7, qK_144, qR_139_8, qK_145, qR_139_9, qK_146, qR_139_21, qK_147, qR_139_25, qK_148, qR_139_30, qK_149, qR_139_31, qK_150, qR_139_33, qK_151, qR_139_34, qK_152, qR_139_35, qK_153, qR_139_36, qK_154, qR_139_39, qK_155, qR_139_40, qK_156, qR_139_41, qK_157]
    exact one 1 60 (by decide) (by decide) (by unfold zpRow; rw [if_pos rfl])
  · rw [qJ_st _ _ _ _ _ (by rfl)]
    exact rest (by omega)
  · -- a yield
    have e : k = 12 := by omega
    subst e
    have eR : zpRow B N (C 0 0) (C 0 2 * C 0 3) 12 p = zbd (zpB B N (C 0 0) p) fun a => .inr (zr6 12 a.1 0 0 0, a.2) := by
      unfold zpRow
      rw [if_neg (by decide), if_neg (by decide), if_pos rfl]
    rw [qJ_st _ _ _ _ _ (by rfl), eR]
    refine qV.go 30 [9999] ok_256 ?_
    simp only [qW_nop, qW_iconst, qW_bipush, qW_iloadn, qW_aloadn, qW_iadd, qW_isub, qW_ifeq, qW_goto, qW_tsw, qW_cv1_0, qW_cv2_0, qW_cv4_0, qW_iret1, Nat.reduceAdd, Nat.reduceMul, Nat.reduceBEq, Nat.reduceEqDiff, Nat.reduceLT, Nat.reduceLeDiff, Nat.zero_le, nI_add, nI_mul, nI_cl, qin_eq, qofI, qlg_0, qlg_s, qls_i0, qls_r0, qls_l0, qls_1, qls_2, qkl_i, qkl_r, qkl_l, qkl_n, qIsI_i, qIsL_l, qIsR_r, qint_i, qil_i, qil_r, qil_l, qf4_0, qf4_1, qf4_2, qf4_3, qf2_0, qf2_1, qcs_n, qcs_i, qcs_r, qcs_l, qst_n, qst_c, qJ_0, qJ_st, qJ_go, qfl_I, qfl_Z, qfl_L, qfl_R, qrI_i, qrL_l, qrV_v, qRcv_0, qRcv_s, eq_self, true_and, and_true, true_or, or_true, false_and, and_false, false_or, or_false, ite_true, if_true, if_false, Bool.true_or, Bool.false_or, Bool.or_false, beq_self_eq_true, Bool.false_eq_true, bX12_weekOrder_0, bX12_weekOrder_72, bX12_weekOrder_83, bX12_weekOrder_120, bX12_weekOrder_121, bX12_weekOrder_122, bX12_weekOrder_130, bX12_weekOrder_161, bX12_weekOrder_162, bX12_weekOrder_163, bX12_weekOrder_174, bX12_weekOrder_180, kX12_weekOrder_0, kX12_weekOrder_72, kX12_weekOrder_83, kX12_weekOrder_120, kX12_weekOrder_121, kX12_weekOrder_122, kX12_weekOrder_130, kX12_weekOrder_161, kX12_weekOrder_162, kX12_weekOrder_163, kX12_weekOrder_174, kX12_weekOrder_180, qK_139, qR_139_0, qK_140, qR_139_1, qK_141, qR_139_5, qK_142, qR_139_6, qK_143, qR_139_7, qK_144, qR_139_8, qK_145, qR_139_9, qK_146, qR_139_21, qK_147, qR_139_25, qK_148, qR_139_30, qK_149, qR_139_31, qK_150, qR_139_33, qK_151, qR_139_34, qK_152, qR_139_35, qK_153, qR_139_36, qK_154, qR_139_39, qK_155, qR_139_40, qK_156, qR_139_41, qK_157]
    refine qBI.of (m_boyTo hB hp h bo hN hm (t := r + 1) (by omega)) (by decide) (fun x σ1 g => ?_)
    obtain ⟨g, f1⟩ := g
    have F1 := zPrw_t (r := r) f1 (by omega) (by omega)
    rcases zPo_c g with ⟨e, he, rfl, hf⟩ | ⟨a, ha, rfl, p1, v1⟩
    · exact ⟨Or.inl rfl, zPo_l (by rw [he]; rfl) rfl hf, F1⟩
    · refine ⟨Or.inr rfl, zPo_r (by rw [ha]; rfl) rfl ⟨p1, (hw.set f1 v1).eq (fun i hi => ?_)⟩, F1⟩
      rcases six i hi with rfl | rfl | rfl | rfl | rfl | rfl <;> simp [zr6]
  · -- a pitch
    have e : k = 13 := by omega
    subst e
    have eR : zpRow B N (C 0 0) (C 0 2 * C 0 3) 13 p = zbd (zpB B N (C 0 0) p) fun a => zbd (zpN B 0 (C 0 2 * C 0 3 - 1) a.2) fun b => .inr (zr6 13 a.1 b.1 0 0, b.2) := by
      unfold zpRow
      rw [if_neg (by decide), if_neg (by decide), if_neg (by decide), if_pos rfl]
    rw [qJ_st _ _ _ _ _ (by rfl), eR]
    refine qV.go 30 [9999] ok_256 ?_
    simp only [qW_nop, qW_iconst, qW_bipush, qW_iloadn, qW_aloadn, qW_iadd, qW_isub, qW_ifeq, qW_goto, qW_tsw, qW_cv1_0, qW_cv2_0, qW_cv4_0, qW_iret1, Nat.reduceAdd, Nat.reduceMul, Nat.reduceBEq, Nat.reduceEqDiff, Nat.reduceLT, Nat.reduceLeDiff, Nat.zero_le, nI_add, nI_mul, nI_cl, qin_eq, qofI, qlg_0, qlg_s, qls_i0, qls_r0, qls_l0, qls_1, qls_2, qkl_i, qkl_r, qkl_l, qkl_n, qIsI_i, qIsL_l, qIsR_r, qint_i, qil_i, qil_r, qil_l, qf4_0, qf4_1, qf4_2, qf4_3, qf2_0, qf2_1, qcs_n, qcs_i, qcs_r, qcs_l, qst_n, qst_c, qJ_0, qJ_st, qJ_go, qfl_I, qfl_Z, qfl_L, qfl_R, qrI_i, qrL_l, qrV_v, qRcv_0, qRcv_s, eq_self, true_and, and_true, true_or, or_true, false_and, and_false, false_or, or_false, ite_true, if_true, if_false, Bool.true_or, Bool.false_or, Bool.or_false, beq_self_eq_true, Bool.false_eq_true, bX12_weekOrder_0, bX12_weekOrder_72, bX12_weekOrder_83, bX12_weekOrder_120, bX12_weekOrder_121, bX12_weekOrder_122, bX12_weekOrder_130, bX12_weekOrder_161, bX12_weekOrder_162, bX12_weekOrder_163, bX12_weekOrder_174, bX12_weekOrder_180, kX12_weekOrder_0, kX12_weekOrder_72, kX12_weekOrder_83, kX12_weekOrder_120, kX12_weekOrder_121, kX12_weekOrder_122, kX12_weekOrder_130, kX12_weekOrder_161, kX12_weekOrder_162, kX12_weekOrder_163, kX12_weekOrder_174, kX12_weekOrder_180, qK_139, qR_139_0, qK_140, qR_139_1, qK_141, qR_139_5, qK_142, qR_139_6, qK_143, qR_139_7, qK_144, qR_139_8, qK_145, qR_139_9, qK_146, qR_139_21, qK_147, qR_139_25, qK_148, qR_139_30, qK_149, qR_139_31, qK_150, qR_139_33, qK_151, qR_139_34, qK_152, qR_139_35, qK_153, qR_139_36, qK_154, qR_139_39, qK_155, qR_139_40, qK_156, qR_139_41, qK_157]
    refine qBI.of (m_boyTo hB hp h bo hN hm (t := r + 1) (by omega)) (by decide) (fun x σ1 g => ?_)
    obtain ⟨g, f1⟩ := g
    have F1 := zPrw_t (r := r) f1 (by omega) (by omega)
    rcases zPo_c g with ⟨e, he, rfl, hf⟩ | ⟨a, ha, rfl, p1, v1⟩
    · simp (disch := omega) only [nI_leI, nI_ltI, nI_eq, nI_cl, qin_eq, nI_add, nI_mul, qb_z, qb_t, qb_f, nI_ne0', Nat.reduceAdd, Bool.false_eq_true, if_false, if_true, true_and, and_true, Nat.reduceEqDiff, not_true_eq_false, not_false_eq_true, false_implies, true_implies, ite_true, ite_false]
      exact ⟨zPo_l (by rw [he]; rfl) rfl hf, F1⟩
    · simp (disch := omega) only [nI_leI, nI_ltI, nI_eq, nI_cl, qin_eq, nI_add, nI_mul, qb_z, qb_t, qb_f, nI_ne0', Nat.reduceAdd, Bool.false_eq_true, if_false, if_true, true_and, and_true, Nat.reduceEqDiff, not_true_eq_false, not_false_eq_true, false_implies, true_implies, ite_true, ite_false]
      have s1 := zpB_inr hB hp ha
      simp only [ha, zbd_r]
      have w1 := hw.set f1 v1
      have C1 : zM σ1 0 C := hC.keep hW (fun j hj => zPto_at f1 (by omega))
      refine qBI.fn (m_cells C1 hW) (by decide) ?_
      rw [nI_sub hc.1]
      refine qBI.of (m_number hB s1.2.1 p1 (t := r + 2) (lo := 0) (hi := C 0 2 * C 0 3 - 1) (by omega) (by decide) (by omega)) (by decide) (fun x σ3 g => ?_)
      obtain ⟨g, f3⟩ := g
      have F3 := F1.tr (zPrw_t (r := r) f3 (by omega) (by omega))
      rcases zPo_c g with ⟨e, he, rfl, hf⟩ | ⟨c, hcc, rfl, p3, v3⟩
      · simp (disch := omega) only [nI_leI, nI_ltI, nI_eq, nI_cl, qin_eq, nI_add, nI_mul, qb_z, qb_t, qb_f, nI_ne0', Nat.reduceAdd, Bool.false_eq_true, if_false, if_true, true_and, and_true, Nat.reduceEqDiff, not_true_eq_false, not_false_eq_true, false_implies, true_implies, ite_true, ite_false]
        exact ⟨zPo_l (by rw [he]; rfl) rfl hf, F3⟩
      · simp (disch := omega) only [nI_leI, nI_ltI, nI_eq, nI_cl, qin_eq, nI_add, nI_mul, qb_z, qb_t, qb_f, nI_ne0', Nat.reduceAdd, Bool.false_eq_true, if_false, if_true, true_and, and_true, Nat.reduceEqDiff, not_true_eq_false, not_false_eq_true, false_implies, true_implies, ite_true, ite_false]
        refine ⟨zPo_r (by rw [hcc]; rfl) rfl ⟨p3, (w1.set f3 v3).eq (fun i hi => ?_)⟩, F3⟩
        rcases six i hi with rfl | rfl | rfl | rfl | rfl | rfl <;> simp [zr6]
  · rw [qJ_st _ _ _ _ _ (by rfl)]
    exact rest (by omega)
  · have e : k = 15 := by omega
    subst e
    have eR : zpRow B N (C 0 0) (C 0 2 * C 0 3) 15 p = zpTest B N (C 0 0) p := by
      unfold zpRow
      rw [if_neg (by decide), if_neg (by decide), if_neg (by decide), if_neg (by decide), if_neg (by decide), if_pos rfl]
    rw [qJ_st _ _ _ _ _ (by rfl), eR]
    refine qV.go 30 [9999] ok_256 ?_
    simp only [qW_nop, qW_iconst, qW_bipush, qW_iloadn, qW_aloadn, qW_iadd, qW_isub, qW_ifeq, qW_goto, qW_tsw, qW_cv1_0, qW_cv2_0, qW_cv4_0, qW_iret1, Nat.reduceAdd, Nat.reduceMul, Nat.reduceBEq, Nat.reduceEqDiff, Nat.reduceLT, Nat.reduceLeDiff, Nat.zero_le, nI_add, nI_mul, nI_cl, qin_eq, qofI, qlg_0, qlg_s, qls_i0, qls_r0, qls_l0, qls_1, qls_2, qkl_i, qkl_r, qkl_l, qkl_n, qIsI_i, qIsL_l, qIsR_r, qint_i, qil_i, qil_r, qil_l, qf4_0, qf4_1, qf4_2, qf4_3, qf2_0, qf2_1, qcs_n, qcs_i, qcs_r, qcs_l, qst_n, qst_c, qJ_0, qJ_st, qJ_go, qfl_I, qfl_Z, qfl_L, qfl_R, qrI_i, qrL_l, qrV_v, qRcv_0, qRcv_s, eq_self, true_and, and_true, true_or, or_true, false_and, and_false, false_or, or_false, ite_true, if_true, if_false, Bool.true_or, Bool.false_or, Bool.or_false, beq_self_eq_true, Bool.false_eq_true, bX12_weekOrder_0, bX12_weekOrder_72, bX12_weekOrder_83, bX12_weekOrder_120, bX12_weekOrder_121, bX12_weekOrder_122, bX12_weekOrder_130, bX12_weekOrder_161, bX12_weekOrder_162, bX12_weekOrder_163, bX12_weekOrder_174, bX12_weekOrder_180, kX12_weekOrder_0, kX12_weekOrder_72, kX12_weekOrder_83, kX12_weekOrder_120, kX12_weekOrder_121, kX12_weekOrder_122, kX12_weekOrder_130, kX12_weekOrder_161, kX12_weekOrder_162, kX12_weekOrder_163, kX12_weekOrder_174, kX12_weekOrder_180, qK_139, qR_139_0, qK_140, qR_139_1, qK_141, qR_139_5, qK_142, qR_139_6, qK_143, qR_139_7, qK_144, qR_139_8, qK_145, qR_139_9, qK_146, qR_139_21, qK_147, qR_139_25, qK_148, qR_139_30, qK_149, qR_139_31, qK_150, qR_139_33, qK_151, qR_139_34, qK_152, qR_139_35, qK_153, qR_139_36, qK_154, qR_139_39, qK_155, qR_139_40, qK_156, qR_139_41, qK_157]
    refine qBI.of (m_test hB hp h bo hN hm hr hr2 hw) (by decide) (fun x σ1 g => ?_)
    refine ⟨?_, g⟩
    rcases zPo_c g.1 with ⟨e, he, rfl, hf⟩ | ⟨v, hv, rfl, hv1⟩
    · exact Or.inl rfl
    · exact Or.inr rfl
  · have e : k = 16 := by omega
    subst e
    rw [qJ_st _ _ _ _ _ (by rfl)]
    refine qV.go 30 [9999] ok_256 ?_
    simp only [qW_nop, qW_iconst, qW_bipush, qW_iloadn, qW_aloadn, qW_iadd, qW_isub, qW_ifeq, qW_goto, qW_tsw, qW_cv1_0, qW_cv2_0, qW_cv4_0, qW_iret1, Nat.reduceAdd, Nat.reduceMul, Nat.reduceBEq, Nat.reduceEqDiff, Nat.reduceLT, Nat.reduceLeDiff, Nat.zero_le, nI_add, nI_mul, nI_cl, qin_eq, qofI, qlg_0, qlg_s, qls_i0, qls_r0, qls_l0, qls_1, qls_2, qkl_i, qkl_r, qkl_l, qkl_n, qIsI_i, qIsL_l, qIsR_r, qint_i, qil_i, qil_r, qil_l, qf4_0, qf4_1, qf4_2, qf4_3, qf2_0, qf2_1, qcs_n, qcs_i, qcs_r, qcs_l, qst_n, qst_c, qJ_0, qJ_st, qJ_go, qfl_I, qfl_Z, qfl_L, qfl_R, qrI_i, qrL_l, qrV_v, qRcv_0, qRcv_s, eq_self, true_and, and_true, true_or, or_true, false_and, and_false, false_or, or_false, ite_true, if_true, if_false, Bool.true_or, Bool.false_or, Bool.or_false, beq_self_eq_true, Bool.false_eq_true, bX12_weekOrder_0, bX12_weekOrder_72, bX12_weekOrder_83, bX12_weekOrder_120, bX12_weekOrder_121, bX12_weekOrder_122, bX12_weekOrder_130, bX12_weekOrder_161, bX12_weekOrder_162, bX12_weekOrder_163, bX12_weekOrder_174, bX12_weekOrder_180, kX12_weekOrder_0, kX12_weekOrder_72, kX12_weekOrder_83, kX12_weekOrder_120, kX12_weekOrder_121, kX12_weekOrder_122, kX12_weekOrder_130, kX12_weekOrder_161, kX12_weekOrder_162, kX12_weekOrder_163, kX12_weekOrder_174, kX12_weekOrder_180, qK_139, qR_139_0, qK_140, qR_139_1, qK_141, qR_139_5, qK_142, qR_139_6, qK_143, qR_139_7, qK_144, qR_139_8, qK_145, qR_139_9, qK_146, qR_139_21, qK_147, qR_139_25, qK_148, qR_139_30, qK_149, qR_139_31, qK_150, qR_139_33, qK_151, qR_139_34, qK_152, qR_139_35, qK_153, qR_139_36, qK_154, qR_139_39, qK_155, qR_139_40, qK_156, qR_139_41, qK_157]
    exact one 1 99 (by decide) (by decide) (by unfold zpRow; rw [if_neg (by decide), if_neg (by decide), if_neg (by decide), if_neg (by decide), if_pos rfl])
