/-! the reference's calls: a new boy; mornings -/
theorem zM.come {σ σ' : qSg} {C : zC} (h : zM σ 0 C) (hw : zW C) (hb : C 0 0 < 8) {c p s e : Nat} (fr : ∀ j, j < 88 → j ≠ 0 → ¬ (8 + 5 * C 0 0 ≤ j ∧ j < 13 + 5 * C 0 0) → σ'.1 140 j = σ.1 140 j) (v0 : σ'.1 140 0 = nI (C 0 0 + 1)) (v1 : σ'.1 140 (8 + 5 * C 0 0) = nI c) (v2 : σ'.1 140 (8 + 5 * C 0 0 + 1) = nI p) (v3 : σ'.1 140 (8 + 5 * C 0 0 + 2) = nI s) (v4 : σ'.1 140 (8 + 5 * C 0 0 + 3) = nI e) (v5 : σ'.1 140 (8 + 5 * C 0 0 + 4) = nI 0) : zM σ' 0 (zcome C c p s e) := by
  obtain ⟨wb, wq, ww1, ww2, wh1, wh2, wo, wm, wB, wQ⟩ := id hw
  refine ⟨fun j hj => ?_, fun b hb1 g hg => ?_, fun q hq g hg => ?_⟩
  · rw [Nat.zero_add]
    by_cases ej : j = 0
    · subst ej
      rw [zcome_0]
      exact v0
    · rw [zcome_ne (by omega) (by omega), fr _ (by omega) ej (by omega)]
      exact zM_s h j hj
  · rw [zcome_0] at hb1
    rw [Nat.zero_add]
    by_cases ej : b = C 0 0
    · subst ej
      rw [zcome_b _ _ _ _ _ _ hg]
      rcases (show g = 0 ∨ g = 1 ∨ g = 2 ∨ g = 3 ∨ g = 4 by omega) with rfl | rfl | rfl | rfl | rfl
      · exact v1
      · exact v2
      · exact v3
      · exact v4
      · exact v5
    · rw [zcome_ne (by omega) (by omega), fr _ (by omega) (by omega) (by omega)]
      exact zM_b h (by omega) hg
  · rw [zcome_ne (by omega) (by omega)] at hq
    rw [Nat.zero_add, zcome_ne (by omega) (by omega), fr _ (by omega) (by omega) (by omega)]
    exact zM_q h hq hg
theorem zWW.mono {W : Nat → Nat → Nat} {n b b' c : Nat} (h : zWW W n b c) (hb : b ≤ b') : zWW W n b' c := by
  obtain ⟨h1, h2, h3⟩ := h
  refine ⟨h1, fun k hk => ?_, h3⟩
  obtain ⟨a1, a2, a3, a4, a5, a6, a7, a8, a9⟩ := h2 k hk
  exact ⟨a1, a2, fun e => ⟨by have := a3 e; omega, by have := a3 e; omega, (a3 e).2.2⟩, fun e => by have := a4 e; omega, fun e => ⟨by have := a5 e; omega, (a5 e).2⟩, a6, fun e => by have := a7 e; omega, a8, a9⟩
theorem zNm_nil : zNm [] := ⟨Nat.zero_le _, fun c hc => by cases hc⟩
theorem zAW.come {A : zA} (h : zAW A) (hb : aC A 0 0 < 8) {c p : Nat} (hc : c < aC A 0 2 * aC A 0 3) (h1 : 1 ≤ p) (h2 : p ≤ 30) : zAW (sK A (zcome (aC A) c p 1 2, fun b => if b = aC A 0 0 then [] else A.1.2.1 b, A.1.2.2)) := by
  obtain ⟨w1, w2⟩ := h
  refine ⟨⟨zcome_W w1.1 hb hc h1 h2 (by decide) (by decide), ?_, fun b hb1 => ?_, fun w hw => ?_⟩, w2⟩
  · show zcome (aC A) c p 1 2 0 5 ≤ 9999
    rw [zcome_ne (by omega) (by omega)]
    exact w1.2.1
  · show zNm (if b = aC A 0 0 then [] else A.1.2.1 b)
    have hb1 : b < zcome (aC A) c p 1 2 0 0 := hb1
    rw [zcome_0] at hb1
    split
    · exact zNm_nil
    · have e : aC A 0 0 = A.1.1 0 0 := rfl
      exact w1.2.2.1 b (by omega)
  · show zWW w.1 w.2 (zcome (aC A) c p 1 2 0 0) (zcome (aC A) c p 1 2 0 2 * zcome (aC A) c p 1 2 0 3)
    rw [zcome_0, zcome_ne (by omega) (by omega), zcome_ne (by omega) (by omega)]
    exact (w1.2.2.2 w hw).mono (Nat.le_succ _)
theorem zMA.come {σ σ' : qSg} {A : zA} (h : zMA σ A) (hW : zAW A) {C : zC} (e : ∀ a j, ¬ (a = 140 ∧ j < 88 ∧ j ≠ 6) → σ'.1 a j = σ.1 a j) (e2 : ∀ a j, ¬ (a = 141 ∧ j = aC A 0 0) → σ'.2 a j = σ.2 a j) (hb : aC A 0 0 < 8) (hM : zM σ' 0 C) (hC : C 0 0 = aC A 0 0 + 1) (hn : σ'.2 141 (aC A 0 0) = lN 0) :
    zMA σ' (sK A (C, fun b => if b = aC A 0 0 then [] else A.1.2.1 b, A.1.2.2)) := by
  obtain ⟨w1, w2, w3, -⟩ := hW
  obtain ⟨h1, h2, h3, h4, h5, h6, h7, h8, h9, h10⟩ := h
  refine ⟨⟨hM, fun b hb => ?_, h1.2.2.kp w1.w (fun j hj h88 => e _ _ (by omega))⟩, ?_, fun i i1 i2 => (h3 i i1 i2).kp (w3 i i1 i2) (fun j hj => e _ _ (by omega)) (fun j hj => e2 _ _ (by omega)), ?_, ⟨?_, fun j hj => ?_⟩, ⟨?_, ?_⟩, ?_, ⟨?_, ?_⟩, ⟨?_, fun hd j hj => ?_⟩, fun j hj => ?_⟩
  · have hb : b < C 0 0 := hb
    show σ'.2 141 (8 * 0 + b) = zcr2 (if b = aC A 0 0 then [] else A.1.2.1 b)
    rw [show 8 * 0 + b = b by omega]
    by_cases eb : b = aC A 0 0
    · rw [if_pos eb, eb, hn]; rfl
    · rw [if_neg eb, e2 _ _ (by omega)]
      have := h1.2.1 b (by have e9 : aC A 0 0 = A.1.1 0 0 := rfl; omega)
      rwa [show 8 * 0 + b = b by omega] at this
  · rw [e _ _ (by omega)]; exact h2
  · exact h4.kp (fun j => e _ _ (by omega)) (fun j => e _ _ (by omega)) (fun j => e2 _ _ (by omega))
  · rw [e _ _ (by omega)]; exact h5.1
  · rw [e _ _ (by omega)]; exact h5.2 j hj
  · rw [e2 _ _ (by omega)]; exact h6.1
  · rw [e2 _ _ (by omega)]; exact h6.2
  · rw [e _ _ (by omega)]; exact h7
  · rw [e _ _ (by omega)]; exact h8.1
  · rw [e _ _ (by omega)]; exact h8.2
  · rw [e _ _ (by omega)]; exact h9.1
  · rw [e _ _ (by omega)]; exact h9.2 hd j hj
  · rw [e _ _ (by omega)]; exact h10 j hj
set_option maxRecDepth 20000 in
theorem M_come {σ : qSg} {A : zA} (hA : zMA σ A) (hW : zAW A) (c p : Int32) : qCI 3 293 [qr 139, qi c, qi p] σ (zCall σ (yCome A c p)) := by
  have hM := hA.m
  have hw := hW.w
  have wb := hw.1
  refine qCI.of [some (qr 139), some (qi c), some (qi p), none] ok_293 (Nat.le_of_ble_eq_true rfl) rfl ?_
  refine qV.go 30 [20, 45] ok_293 ?_
  simp only [qW_nop, qW_iconst, qW_bipush, qW_ldc2, qW_lconst, qW_iloadn, qW_aloadn, qW_istoren, qW_iadd, qW_i2l, qW_dup2, qW_ifeq, qW_ifne, qW_icne, qW_getf, qW_iald, qW_iast, qW_last, qW_cs1_0, qW_cs3_0, qW_cv2_0, qW_iret0, Nat.reduceAdd, Nat.reduceMul, Nat.reduceBEq, Nat.reduceEqDiff, Nat.reduceLT, Nat.reduceLeDiff, Nat.zero_le, nI_add, nI_mul, nI_cl, qin_eq, qofI, qlg_0, qlg_s, qls_i0, qls_r0, qls_l0, qls_1, qls_2, qkl_i, qkl_r, qkl_l, qkl_n, qIsI_i, qIsL_l, qIsR_r, qint_i, qil_i, qil_r, qil_l, qf4_0, qf4_1, qf4_2, qf4_3, qf2_0, qf2_1, qcs_n, qcs_i, qcs_r, qcs_l, qst_n, qst_c, qJ_0, qJ_st, qJ_go, qfl_I, qfl_Z, qfl_L, qfl_R, qrI_i, qrL_l, qrV_v, qRcv_0, qRcv_s, eq_self, true_and, and_true, true_or, or_true, false_and, and_false, false_or, or_false, ite_true, if_true, if_false, Bool.true_or, Bool.false_or, Bool.or_false, beq_self_eq_true, Bool.false_eq_true, bX12_come_0, bX12_come_20, bX12_come_26, bX12_come_45, kX12_come_0, kX12_come_20, kX12_come_26, kX12_come_45, qK_139, qR_139_0, qK_140, qR_139_1, qK_141, qR_139_5, qK_142, qR_139_6, qK_143, qR_139_7, qK_144, qR_139_8, qK_145, qR_139_9, qK_146, qR_139_21, qK_147, qR_139_25, qK_148, qR_139_30, qK_149, qR_139_31, qK_150, qR_139_33, qK_151, qR_139_34, qK_152, qR_139_35, qK_153, qR_139_36, qK_154, qR_139_39, qK_155, qR_139_40, qK_156, qR_139_41, qK_157]
  refine qBI.fn (m_isCell hM hw _) (by decide) ?_
  simp (disch := omega) only [nI_leI, nI_ltI, nI_eq, nI_cl, qin_eq, nI_add, nI_mul, qb_z, qb_t, qb_f, nI_ne0', Nat.reduceAdd, Bool.false_eq_true, if_false, if_true, true_and, and_true, Nat.reduceEqDiff, not_true_eq_false, not_false_eq_true, false_implies, true_implies, ite_true, ite_false]
  have no : (zrg c (aC A 0 2 * aC A 0 3) && zih p 1 30) = false → qV 293 3 (.inl (zCall σ (yCome A c p))) 20 [some (qr 139), some (qi c), some (qi p), none] [] σ := by
    intro hz
    refine qV.go 30 [9999] ok_293 ?_
    simp only [qW_nop, qW_iconst, qW_bipush, qW_ldc2, qW_lconst, qW_iloadn, qW_aloadn, qW_istoren, qW_iadd, qW_i2l, qW_dup2, qW_ifeq, qW_ifne, qW_icne, qW_getf, qW_iald, qW_iast, qW_last, qW_cs1_0, qW_cs3_0, qW_cv2_0, qW_iret0, Nat.reduceAdd, Nat.reduceMul, Nat.reduceBEq, Nat.reduceEqDiff, Nat.reduceLT, Nat.reduceLeDiff, Nat.zero_le, nI_add, nI_mul, nI_cl, qin_eq, qofI, qlg_0, qlg_s, qls_i0, qls_r0, qls_l0, qls_1, qls_2, qkl_i, qkl_r, qkl_l, qkl_n, qIsI_i, qIsL_l, qIsR_r, qint_i, qil_i, qil_r, qil_l, qf4_0, qf4_1, qf4_2, qf4_3, qf2_0, qf2_1, qcs_n, qcs_i, qcs_r, qcs_l, qst_n, qst_c, qJ_0, qJ_st, qJ_go, qfl_I, qfl_Z, qfl_L, qfl_R, qrI_i, qrL_l, qrV_v, qRcv_0, qRcv_s, eq_self, true_and, and_true, true_or, or_true, false_and, and_false, false_or, or_false, ite_true, if_true, if_false, Bool.true_or, Bool.false_or, Bool.or_false, beq_self_eq_true, Bool.false_eq_true, bX12_come_0, bX12_come_20, bX12_come_26, bX12_come_45, kX12_come_0, kX12_come_20, kX12_come_26, kX12_come_45, qK_139, qR_139_0, qK_140, qR_139_1, qK_141, qR_139_5, qK_142, qR_139_6, qK_143, qR_139_7, qK_144, qR_139_8, qK_145, qR_139_9, qK_146, qR_139_21, qK_147, qR_139_25, qK_148, qR_139_30, qK_149, qR_139_31, qK_150, qR_139_33, qK_151, qR_139_34, qK_152, qR_139_35, qK_153, qR_139_36, qK_154, qR_139_39, qK_155, qR_139_40, qK_156, qR_139_41, qK_157]
    exact e_no hA hW zRef.rf (by decide) (by unfold yCome; rw [if_pos hz]; rfl)
  refine ⟨fun h1 => no (by rw [h1]; rfl), fun h1 => ?_⟩
  have h1 : zrg c (aC A 0 2 * aC A 0 3) = true := by simpa using h1
  refine qBI.fn (m_isFrom' σ _ (lo := 1) (hi := 30) (by decide) (by decide)) (by decide) ?_
  rw [zlh_i]
  simp (disch := omega) only [nI_leI, nI_ltI, nI_eq, nI_cl, qin_eq, nI_add, nI_mul, qb_z, qb_t, qb_f, nI_ne0', Nat.reduceAdd, Bool.false_eq_true, if_false, if_true, true_and, and_true, Nat.reduceEqDiff, not_true_eq_false, not_false_eq_true, false_implies, true_implies, ite_true, ite_false]
  refine ⟨fun h2 => ?_, fun h2 => no (by rw [h2, Bool.and_false])⟩
  have h2 : zih p 1 30 = true := by simpa using h2
  have hc := zSW_cells hw
  obtain ⟨i, hi, rfl⟩ := zrg_nI h1
  obtain ⟨v, v1, v2, rfl⟩ := zih_nI h2
  have eY : yCome A (nI i) (nI v) = if aC A 0 0 = 8 then yNo A 4 else yOk (sK A (zcome (aC A) i v 1 2, fun b => if b = aC A 0 0 then [] else A.1.2.1 b, A.1.2.2)) (nI (aC A 0 0)) := by
    unfold yCome
    rw [if_neg (by rw [h1, h2]; decide), nI_tn (by omega), nI_tn (by omega)]
  rw [eY, zM_s hM 0 (by decide)]
  simp (disch := omega) only [nI_leI, nI_ltI, nI_eq, nI_cl, qin_eq, nI_add, nI_mul, qb_z, qb_t, qb_f, nI_ne0', Nat.reduceAdd, Bool.false_eq_true, if_false, if_true, true_and, and_true, Nat.reduceEqDiff, not_true_eq_false, not_false_eq_true, false_implies, true_implies, ite_true, ite_false]
  refine ⟨fun h3 => ?_, fun h3 => ?_⟩
  · rw [if_neg h3]
    have hb8 : aC A 0 0 < 8 := by omega
    refine qV.go 30 [9999] ok_293 ?_
    simp only [qW_nop, qW_iconst, qW_bipush, qW_ldc2, qW_lconst, qW_iloadn, qW_aloadn, qW_istoren, qW_iadd, qW_i2l, qW_dup2, qW_ifeq, qW_ifne, qW_icne, qW_getf, qW_iald, qW_iast, qW_last, qW_cs1_0, qW_cs3_0, qW_cv2_0, qW_iret0, Nat.reduceAdd, Nat.reduceMul, Nat.reduceBEq, Nat.reduceEqDiff, Nat.reduceLT, Nat.reduceLeDiff, Nat.zero_le, nI_add, nI_mul, nI_cl, qin_eq, qofI, qlg_0, qlg_s, qls_i0, qls_r0, qls_l0, qls_1, qls_2, qkl_i, qkl_r, qkl_l, qkl_n, qIsI_i, qIsL_l, qIsR_r, qint_i, qil_i, qil_r, qil_l, qf4_0, qf4_1, qf4_2, qf4_3, qf2_0, qf2_1, qcs_n, qcs_i, qcs_r, qcs_l, qst_n, qst_c, qJ_0, qJ_st, qJ_go, qfl_I, qfl_Z, qfl_L, qfl_R, qrI_i, qrL_l, qrV_v, qRcv_0, qRcv_s, eq_self, true_and, and_true, true_or, or_true, false_and, and_false, false_or, or_false, ite_true, if_true, if_false, Bool.true_or, Bool.false_or, Bool.or_false, beq_self_eq_true, Bool.false_eq_true, bX12_come_0, bX12_come_20, bX12_come_26, bX12_come_45, kX12_come_0, kX12_come_20, kX12_come_26, kX12_come_45, qK_139, qR_139_0, qK_140, qR_139_1, qK_141, qR_139_5, qK_142, qR_139_6, qK_143, qR_139_7, qK_144, qR_139_8, qK_145, qR_139_9, qK_146, qR_139_21, qK_147, qR_139_25, qK_148, qR_139_30, qK_149, qR_139_31, qK_150, qR_139_33, qK_151, qR_139_34, qK_152, qR_139_35, qK_153, qR_139_36, qK_154, qR_139_39, qK_155, qR_139_40, qK_156, qR_139_41, qK_157]
    rw [zM_s hM 0 (by decide)]
    refine qBI.fn (m_boyRow _ _) (by decide) ?_
    simp only [nI_mul, nI_add]
    simp (disch := omega) only [nI_leI, nI_ltI, nI_eq, nI_cl, qin_eq, nI_add, nI_mul, qb_z, qb_t, qb_f, nI_ne0', Nat.reduceAdd, Bool.false_eq_true, if_false, if_true, true_and, and_true, Nat.reduceEqDiff, not_true_eq_false, not_false_eq_true, false_implies, true_implies, ite_true, ite_false]
    refine qBI.fn (m_boyRow _ _) (by decide) ?_
    simp only [nI_mul, nI_add]
    simp (disch := omega) only [nI_leI, nI_ltI, nI_eq, nI_cl, qin_eq, nI_add, nI_mul, qb_z, qb_t, qb_f, nI_ne0', Nat.reduceAdd, Bool.false_eq_true, if_false, if_true, true_and, and_true, Nat.reduceEqDiff, not_true_eq_false, not_false_eq_true, false_implies, true_implies, ite_true, ite_false]
    refine qBI.fn (m_boyRow _ _) (by decide) ?_
    simp only [nI_mul, nI_add]
    simp (disch := omega) only [nI_leI, nI_ltI, nI_eq, nI_cl, qin_eq, nI_add, nI_mul, qb_z, qb_t, qb_f, nI_ne0', Nat.reduceAdd, Bool.false_eq_true, if_false, if_true, true_and, and_true, Nat.reduceEqDiff, not_true_eq_false, not_false_eq_true, false_implies, true_implies, ite_true, ite_false]
    refine qBI.fn (m_boyRow _ _) (by decide) ?_
    simp only [nI_mul, nI_add]
    simp (disch := omega) only [nI_leI, nI_ltI, nI_eq, nI_cl, qin_eq, nI_add, nI_mul, qb_z, qb_t, qb_f, nI_ne0', Nat.reduceAdd, Bool.false_eq_true, if_false, if_true, true_and, and_true, Nat.reduceEqDiff, not_true_eq_false, not_false_eq_true, false_implies, true_implies, ite_true, ite_false]
    refine qBI.fn (m_boyRow _ _) (by decide) ?_
    simp only [nI_mul, nI_add]
    simp (disch := omega) only [nI_leI, nI_ltI, nI_eq, nI_cl, qin_eq, nI_add, nI_mul, qb_z, qb_t, qb_f, nI_ne0', Nat.reduceAdd, Bool.false_eq_true, if_false, if_true, true_and, and_true, Nat.reduceEqDiff, not_true_eq_false, not_false_eq_true, false_implies, true_implies, ite_true, ite_false]
    have M2 : zMA _ (sK A (zcome (aC A) i v 1 2, fun b => if b = aC A 0 0 then [] else A.1.2.1 b, A.1.2.2)) := hA.come hW (C := zcome (aC A) i v 1 2) (σ' := (qwl (qwi (qwi (qwi (qwi (qwi (qwi σ 140 0 (nI (aC A 0 0 + 1))) 140 (8 + 5 * aC A 0 0) (nI i)) 140 (8 + 5 * aC A 0 0 + 1) (nI v)) 140 (8 + 5 * aC A 0 0 + 2) (nI 1)) 140 (8 + 5 * aC A 0 0 + 3) (nI 2)) 140 (8 + 5 * aC A 0 0 + 4) (nI 0)) 141 (aC A 0 0) (lN 0)))
      (fun a j hn => by
        by_cases ea : a = 140
        · subst ea
          simp only [qwl_1]
          rw [qwi_1, if_neg (by omega), qwi_1, if_neg (by omega), qwi_1, if_neg (by omega), qwi_1, if_neg (by omega), qwi_1, if_neg (by omega), qwi_1, if_neg (by omega)]
        · simp only [qwl_1]
          rw [qwi_1, if_neg (fun hh => ea hh.1), qwi_1, if_neg (fun hh => ea hh.1), qwi_1, if_neg (fun hh => ea hh.1), qwi_1, if_neg (fun hh => ea hh.1), qwi_1, if_neg (fun hh => ea hh.1), qwi_1, if_neg (fun hh => ea hh.1)])
      (fun a j hn => by rw [qwl_2, if_neg hn]; rfl)
      hb8
      (hM.come hw hb8 (fun j hj j0 hn => by
          simp only [qwl_1]
          rw [qwi_1, if_neg (by omega), qwi_1, if_neg (by omega), qwi_1, if_neg (by omega), qwi_1, if_neg (by omega), qwi_1, if_neg (by omega), qwi_1, if_neg (by omega)])
        (by simp only [qwl_1]; rw [qwi_1, if_neg (by omega), qwi_1, if_neg (by omega), qwi_1, if_neg (by omega), qwi_1, if_neg (by omega), qwi_1, if_neg (by omega), qwi_1, if_pos ⟨rfl, rfl⟩])
        (by simp only [qwl_1]; rw [qwi_1, if_neg (by omega), qwi_1, if_neg (by omega), qwi_1, if_neg (by omega), qwi_1, if_neg (by omega), qwi_1, if_pos ⟨rfl, rfl⟩])
        (by simp only [qwl_1]; rw [qwi_1, if_neg (by omega), qwi_1, if_neg (by omega), qwi_1, if_neg (by omega), qwi_1, if_pos ⟨rfl, rfl⟩])
        (by simp only [qwl_1]; rw [qwi_1, if_neg (by omega), qwi_1, if_neg (by omega), qwi_1, if_pos ⟨rfl, rfl⟩])
        (by simp only [qwl_1]; rw [qwi_1, if_neg (by omega), qwi_1, if_pos ⟨rfl, rfl⟩])
        (by simp only [qwl_1]; rw [qwi_1, if_pos ⟨rfl, rfl⟩]))
      (zcome_0 _ _ _ _ _) (by rw [qwl_2, if_pos ⟨rfl, rfl⟩])
    have fr : zRef σ (qwl (qwi (qwi (qwi (qwi (qwi (qwi σ 140 0 (nI (aC A 0 0 + 1))) 140 (8 + 5 * aC A 0 0) (nI i)) 140 (8 + 5 * aC A 0 0 + 1) (nI v)) 140 (8 + 5 * aC A 0 0 + 2) (nI 1)) 140 (8 + 5 * aC A 0 0 + 3) (nI 2)) 140 (8 + 5 * aC A 0 0 + 4) (nI 0)) 141 (aC A 0 0) (lN 0)) :=
      ((((((zG.wi (by decide)).tr (zG.wi (by decide))).tr (zG.wi (by decide))).tr (zG.wi (by decide))).tr (zG.wi (by decide))).tr (zG.wi (by decide))).tr (zG.wl (by decide))
    exact e_ok M2 (hW.come hb8 hi v1 v2) fr (by decide) rfl
  · rw [if_pos h3]
    exact e_no hA hW zRef.rf (by decide) rfl
