/-! the reference: a life told -/
def zPt (a j : Nat) : Prop := zPl a j ∨ a = 157 ∨ (a = 139 ∧ (j = 42 ∨ j = 2))
set_option maxRecDepth 20000 in
theorem live_go {σ : qSg} {W : Nat → Nat → Nat} {n : Nat} {C : zC} {L : Nat → Nat} {seed : Nat} (h : zM σ 0 C) (hM : zMW σ W n) (hw : zW C) (hW : zWW W n (C 0 0) (C 0 2 * C 0 3)) (h5 : C 0 5 ≤ 9999) (hL : ∀ j, L j ≤ 99) (hLo : zLo σ L) (hs : seed ≤ 9999) :
    qV 362 11 (.inl fun r σ' => r = nI ((zfin W n (zst0 C L seed)).2.2 5) ∧ zM σ' 0 (zfin W n (zst0 C L seed)).1 ∧ zLo σ' (zfin W n (zst0 C L seed)).2.1 ∧ (∀ j, j < 5 → σ'.1 157 j = nI ((zfin W n (zst0 C L seed)).2.2 j)) ∧ σ'.1 139 42 = nI 1 ∧ σ'.1 139 2 = nI 0 ∧ zF zPt σ σ') 36 [some (qr 139), some (qi (nI seed)), none] [] σ := by
  have hst := zst0_W hw hW h5 hL hs
  have hf := zfin_W hst
  refine qV.go 30 [43] ok_362 ?_
  simp only [qW_nop, qW_iconst, qW_iconstm, qW_bipush, qW_ldc2, qW_lconst, qW_iloadn, qW_aloadn, qW_istoren, qW_iinc, qW_i2l, qW_ifne, qW_icne, qW_icge, qW_goto, qW_getf, qW_iald, qW_iast, qW_cs3_0, qW_cv2_0, qW_cv2_2, qW_iret0, qW_putf3, Nat.reduceAdd, Nat.reduceMul, Nat.reduceBEq, Nat.reduceEqDiff, Nat.reduceLT, Nat.reduceLeDiff, Nat.zero_le, nI_add, nI_mul, nI_cl, qin_eq, qofI, qlg_0, qlg_s, qls_i0, qls_r0, qls_l0, qls_1, qls_2, qkl_i, qkl_r, qkl_l, qkl_n, qIsI_i, qIsL_l, qIsR_r, qint_i, qil_i, qil_r, qil_l, qf4_0, qf4_1, qf4_2, qf4_3, qf2_0, qf2_1, qcs_n, qcs_i, qcs_r, qcs_l, qst_n, qst_c, qJ_0, qJ_st, qJ_go, qfl_I, qfl_Z, qfl_L, qfl_R, qrI_i, qrL_l, qrV_v, qRcv_0, qRcv_s, eq_self, true_and, and_true, true_or, or_true, false_and, and_false, false_or, or_false, ite_true, if_true, if_false, Bool.true_or, Bool.false_or, Bool.or_false, beq_self_eq_true, Bool.false_eq_true, bX12_live_0, bX12_live_18, bX12_live_36, bX12_live_43, bX12_live_66, kX12_live_0, kX12_live_18, kX12_live_36, kX12_live_43, kX12_live_66, qK_139, qR_139_0, qK_140, qR_139_1, qK_141, qR_139_5, qK_142, qR_139_6, qK_143, qR_139_7, qK_144, qR_139_8, qK_145, qR_139_9, qK_146, qR_139_21, qK_147, qR_139_25, qK_148, qR_139_30, qK_149, qR_139_31, qK_150, qR_139_33, qK_151, qR_139_34, qK_152, qR_139_35, qK_153, qR_139_36, qK_154, qR_139_39, qK_155, qR_139_40, qK_156, qR_139_41, qK_157]
  refine qBV.of (m_lives h hM hw hW h5 hL hLo hs) (by decide) (fun σ2 h2 => ?_)
  obtain ⟨c1, f2⟩ := h2
  generalize zfin W n (zst0 C L seed) = S at c1 hf ⊢
  refine qdown (n := 5) (P := fun i => ∀ σ1, zF (fun a _ => a = 157) σ2 σ1 → (∀ j, j < i → σ1.1 157 j = nI (S.2.2 j)) → qV 362 11 (.inl fun r σ' => r = nI (S.2.2 5) ∧ zM σ' 0 S.1 ∧ zLo σ' S.2.1 ∧ (∀ j, j < 5 → σ'.1 157 j = nI (S.2.2 j)) ∧ σ'.1 139 42 = nI 1 ∧ σ'.1 139 2 = nI 0 ∧ zF zPt σ σ') 43 [some (qr 139), some (qi (nI seed)), some (qi (nI i))] [] σ1) (fun i hi ih => ?_) 0 (Nat.zero_le _) σ2 zF.rf (fun j hj => absurd hj (by omega))
  intro σ1 f3 a1
  refine qV.go 30 [43] ok_362 ?_
  simp only [qW_nop, qW_iconst, qW_iconstm, qW_bipush, qW_ldc2, qW_lconst, qW_iloadn, qW_aloadn, qW_istoren, qW_iinc, qW_i2l, qW_ifne, qW_icne, qW_icge, qW_goto, qW_getf, qW_iald, qW_iast, qW_cs3_0, qW_cv2_0, qW_cv2_2, qW_iret0, qW_putf3, Nat.reduceAdd, Nat.reduceMul, Nat.reduceBEq, Nat.reduceEqDiff, Nat.reduceLT, Nat.reduceLeDiff, Nat.zero_le, nI_add, nI_mul, nI_cl, qin_eq, qofI, qlg_0, qlg_s, qls_i0, qls_r0, qls_l0, qls_1, qls_2, qkl_i, qkl_r, qkl_l, qkl_n, qIsI_i, qIsL_l, qIsR_r, qint_i, qil_i, qil_r, qil_l, qf4_0, qf4_1, qf4_2, qf4_3, qf2_0, qf2_1, qcs_n, qcs_i, qcs_r, qcs_l, qst_n, qst_c, qJ_0, qJ_st, qJ_go, qfl_I, qfl_Z, qfl_L, qfl_R, qrI_i, qrL_l, qrV_v, qRcv_0, qRcv_s, eq_self, true_and, and_true, true_or, or_true, false_and, and_false, false_or, or_false, ite_true, if_true, if_false, Bool.true_or, Bool.false_or, Bool.or_false, beq_self_eq_true, Bool.false_eq_true, bX12_live_0, bX12_live_18, bX12_live_36, bX12_live_43, bX12_live_66, kX12_live_0, kX12_live_18, kX12_live_36, kX12_live_43, kX12_live_66, qK_139, qR_139_0, qK_140, qR_139_1, qK_141, qR_139_5, qK_142, qR_139_6, qK_143, qR_139_7, qK_144, qR_139_8, qK_145, qR_139_9, qK_146, qR_139_21, qK_147, qR_139_25, qK_148, qR_139_30, qK_149, qR_139_31, qK_150, qR_139_33, qK_151, qR_139_34, qK_152, qR_139_35, qK_153, qR_139_36, qK_154, qR_139_39, qK_155, qR_139_40, qK_156, qR_139_41, qK_157]
  simp (disch := omega) only [nI_leI, nI_ltI, nI_eq, nI_cl, qin_eq, nI_add, nI_mul, qb_z, qb_t, qb_f, nI_ne0', Nat.reduceAdd, Bool.false_eq_true, if_false, if_true, true_and, and_true, Nat.reduceEqDiff, not_true_eq_false, not_false_eq_true, false_implies, true_implies, ite_true, ite_false]
  refine ⟨fun hk => ?_, fun hk => ?_⟩
  · have er : σ1.1 139 38 = nI (S.2.2 5) := by rw [f3.1 _ _ (by omega)]; exact c1.2.2.2.2.1
    refine qBI.of (m_gives _ _) (by decide) (fun r σ4 h4 => ?_)
    obtain ⟨rfl, rfl⟩ := h4
    refine ⟨?_, ?_, ?_, ?_, ?_, ?_, ?_⟩
    · rw [qwi_1, if_neg (by omega)]; exact er
    · exact c1.1.keep hf.1 fun j hj => by rw [qwi_1, if_neg (by omega), qwi_1, if_neg (by omega), f3.1 _ _ (by omega)]
    · exact fun j hj => by rw [qwi_1, if_neg (by omega), qwi_1, if_neg (by omega), f3.1 _ _ (by omega)]; exact c1.2.2.1 j hj
    · exact fun j hj => by rw [qwi_1, if_neg (by omega), qwi_1, if_neg (by omega), a1 j (by omega)]
    · rw [qwi_1, if_neg (by omega), qwi_1, if_pos ⟨rfl, rfl⟩]
    · rw [qwi_1, if_pos ⟨rfl, rfl⟩]
    · exact (((f2.wk fun a j h => Or.inl h).tr (f3.wk fun a j h => Or.inr (Or.inl h))).tr (zF.wi (Or.inr (Or.inr ⟨rfl, Or.inl rfl⟩)))).tr (zF.wi (Or.inr (Or.inr ⟨rfl, Or.inr rfl⟩)))
  · refine ⟨qin_n (by omega) (by decide), qin_n (by omega) (by decide), ih (by omega) _ (f3.tr (zF.wi rfl)) (fun j hj => ?_)⟩
    rw [qwi_1]
    by_cases e : j = i
    · subst e
      rw [if_pos ⟨rfl, rfl⟩, f3.1 _ _ (by omega)]
      exact c1.2.2.2.1 j (by omega)
    · rw [if_neg (by omega), a1 j (by omega)]
set_option maxRecDepth 20000 in
theorem m_orNone (σ : qSg) (v : Int32) : qCI 2 216 [qr 139, qi v] σ (fun r σ' => r = v ∧ σ' = qwi σ 139 2 (if v = iI (-1) then nI 6 else nI 0)) := by
  refine qCI.of [some (qr 139), some (qi v)] ok_216 (Nat.le_of_ble_eq_true rfl) rfl ?_
  refine qV.go 30 [9999] ok_216 ?_
  simp only [qW_nop, qW_iconstm, qW_bipush, qW_iloadn, qW_aloadn, qW_icne, qW_cv2_0, qW_iret0, Nat.reduceAdd, Nat.reduceMul, Nat.reduceBEq, Nat.reduceEqDiff, Nat.reduceLT, Nat.reduceLeDiff, Nat.zero_le, nI_add, nI_mul, nI_cl, qin_eq, qofI, qlg_0, qlg_s, qls_i0, qls_r0, qls_l0, qls_1, qls_2, qkl_i, qkl_r, qkl_l, qkl_n, qIsI_i, qIsL_l, qIsR_r, qint_i, qil_i, qil_r, qil_l, qf4_0, qf4_1, qf4_2, qf4_3, qf2_0, qf2_1, qcs_n, qcs_i, qcs_r, qcs_l, qst_n, qst_c, qJ_0, qJ_st, qJ_go, qfl_I, qfl_Z, qfl_L, qfl_R, qrI_i, qrL_l, qrV_v, qRcv_0, qRcv_s, eq_self, true_and, and_true, true_or, or_true, false_and, and_false, false_or, or_false, ite_true, if_true, if_false, Bool.true_or, Bool.false_or, Bool.or_false, beq_self_eq_true, Bool.false_eq_true, bX12_orNone_0, bX12_orNone_12, kX12_orNone_0, kX12_orNone_12, qK_139, qR_139_0, qK_140, qR_139_1, qK_141, qR_139_5, qK_142, qR_139_6, qK_143, qR_139_7, qK_144, qR_139_8, qK_145, qR_139_9, qK_146, qR_139_21, qK_147, qR_139_25, qK_148, qR_139_30, qK_149, qR_139_31, qK_150, qR_139_33, qK_151, qR_139_34, qK_152, qR_139_35, qK_153, qR_139_36, qK_154, qR_139_39, qK_155, qR_139_40, qK_156, qR_139_41, qK_157]
  refine ⟨fun h => qBI.of (m_gives _ _) (by decide) (fun r σ4 h4 => ?_), fun h => qBI.of (m_refuse _ _) (by decide) (fun r σ4 h4 => ?_)⟩
  · obtain ⟨rfl, rfl⟩ := h4
    exact ⟨rfl, by rw [if_neg h]⟩
  · obtain ⟨rfl, rfl⟩ := h4
    exact ⟨h.symm, by rw [if_pos h]⟩
