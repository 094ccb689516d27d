/-! the reference: the camp's parts -/
theorem zPto_at {σ σ' : qSg} {t j : Nat} (f : zF (zPto t) σ σ') (h : j ≠ t) : σ'.1 140 j = σ.1 140 j := f.1 _ _ (by unfold zPto zPw; omega)
theorem zPw_at {σ σ' : qSg} (f : zF zPw σ σ') (j : Nat) : σ'.1 140 j = σ.1 140 j := f.1 _ _ (by unfold zPw; omega)
theorem zPa_at {σ σ' : qSg} (f : zF zPa σ σ') (j : Nat) : σ'.1 140 j = σ.1 140 j := f.1 _ _ (by unfold zPa; omega)
theorem zPd.at {σ : qSg} {B : Nat → Nat} {n p t : Nat} {x : Int32} (h : zPd σ B n p) : zPd (qwi σ 140 t x) B n p := by
  obtain ⟨⟨⟨t1, t2⟩, t3, t4, t5, t6⟩, t7, t8⟩ := h
  refine ⟨⟨⟨fun k hk => ?_, ?_⟩, ?_, ?_, ?_, fun hh => ?_⟩, ?_, ?_⟩
  · rw [qwi_1, if_neg (by omega)]; exact t1 k hk
  all_goals rw [qwi_1, if_neg (by omega)]
  · exact t2
  · exact t3
  · exact t4
  · exact t5
  · exact t6 hh
  · exact t7
  · exact t8
def zPfi (a j : Nat) : Prop := zPw a j ∨ (a = 140 ∧ (j = 1826 ∨ j = 1827))
set_option maxRecDepth 20000 in
theorem m_aField {σ : qSg} {B : Nat → Nat} {n p : Nat} (hB : zBW B n) (hp : p ≤ n) (h : zPd σ B n p) : qCI 7 248 [qr 139] σ (fun r σ' => zPo (zpField B p) r σ' (fun v => zPd σ' B n v.2 ∧ σ'.1 140 1826 = nI v.1.1 ∧ σ'.1 140 1827 = nI v.1.2) ∧ zF zPfi σ σ') := by
  have hw : ∀ {σ1 σ2 : qSg}, zF zPw σ1 σ2 → zF zPfi σ1 σ2 := fun f => f.wk fun _ _ h => Or.inl h
  have h6 : ∀ {σ1 σ2 : qSg}, zF (zPto 1826) σ1 σ2 → zF zPfi σ1 σ2 := fun f => f.wk fun _ _ h => h.elim Or.inl (fun h => Or.inr ⟨h.1, Or.inl h.2⟩)
  have h7 : ∀ {σ1 σ2 : qSg}, zF (zPto 1827) σ1 σ2 → zF zPfi σ1 σ2 := fun f => f.wk fun _ _ h => h.elim Or.inl (fun h => Or.inr ⟨h.1, Or.inr h.2⟩)
  refine qCI.of [some (qr 139)] ok_248 (Nat.le_of_ble_eq_true rfl) rfl ?_
  refine qV.go 30 [9999] ok_248 ?_
  simp only [qW_nop, qW_iconst, qW_bipush, qW_sipush, qW_ldcs, qW_aloadn, qW_ifeq, qW_goto, qW_cv3_0, qW_cv4_0, qW_iret1, Nat.reduceAdd, Nat.reduceMul, Nat.reduceBEq, Nat.reduceEqDiff, Nat.reduceLT, Nat.reduceLeDiff, Nat.zero_le, nI_add, nI_mul, nI_cl, qin_eq, qofI, qlg_0, qlg_s, qls_i0, qls_r0, qls_l0, qls_1, qls_2, qkl_i, qkl_r, qkl_l, qkl_n, qIsI_i, qIsL_l, qIsR_r, qint_i, qil_i, qil_r, qil_l, qf4_0, qf4_1, qf4_2, qf4_3, qf2_0, qf2_1, qcs_n, qcs_i, qcs_r, qcs_l, qst_n, qst_c, qJ_0, qJ_st, qJ_go, qfl_I, qfl_Z, qfl_L, qfl_R, qrI_i, qrL_l, qrV_v, qRcv_0, qRcv_s, eq_self, true_and, and_true, true_or, or_true, false_and, and_false, false_or, or_false, ite_true, if_true, if_false, Bool.true_or, Bool.false_or, Bool.or_false, beq_self_eq_true, Bool.false_eq_true, bX12_aField_0, bX12_aField_40, bX12_aField_41, kX12_aField_0, kX12_aField_40, kX12_aField_41, qK_139, qR_139_0, qK_140, qR_139_1, qK_141, qR_139_5, qK_142, qR_139_6, qK_143, qR_139_7, qK_144, qR_139_8, qK_145, qR_139_9, qK_146, qR_139_21, qK_147, qR_139_25, qK_148, qR_139_30, qK_149, qR_139_31, qK_150, qR_139_33, qK_151, qR_139_34, qK_152, qR_139_35, qK_153, qR_139_36, qK_154, qR_139_39, qK_155, qR_139_40, qK_156, qR_139_41, qK_157]
  refine qBI.of (m_number hB hp h (t := 1826) (by decide) (by decide) (by decide)) (by decide) (fun r σ1 g => ?_)
  obtain ⟨g, f1⟩ := g
  rcases zPo_c g with ⟨e, he, rfl, hf⟩ | ⟨v, hv, rfl, v1, v2⟩
  · simp (disch := omega) only [nI_leI, nI_ltI, nI_eq, nI_cl, qin_eq, nI_add, nI_mul, qb_z, qb_t, qb_f, nI_ne0', Nat.reduceAdd, Bool.false_eq_true, if_false, if_true, true_and, and_true, Nat.reduceEqDiff, not_true_eq_false, not_false_eq_true, false_implies, true_implies, ite_true, ite_false]
    exact ⟨zPo_l (by simp only [zpField, he, zbd]) rfl hf, h6 f1⟩
  · simp (disch := omega) only [nI_leI, nI_ltI, nI_eq, nI_cl, qin_eq, nI_add, nI_mul, qb_z, qb_t, qb_f, nI_ne0', Nat.reduceAdd, Bool.false_eq_true, if_false, if_true, true_and, and_true, Nat.reduceEqDiff, not_true_eq_false, not_false_eq_true, false_implies, true_implies, ite_true, ite_false]
    have s1 := zpN_inr hB hp hv
    refine qBI.of (m_wantWord hB s1.2.1 v1 (k := 4) (by decide)) (by decide) (fun r σ2 g => ?_)
    obtain ⟨g, f2⟩ := g
    rcases zPo_c g with ⟨e, he, rfl, hf⟩ | ⟨q, hq, rfl, q1⟩
    · simp (disch := omega) only [nI_leI, nI_ltI, nI_eq, nI_cl, qin_eq, nI_add, nI_mul, qb_z, qb_t, qb_f, nI_ne0', Nat.reduceAdd, Bool.false_eq_true, if_false, if_true, true_and, and_true, Nat.reduceEqDiff, not_true_eq_false, not_false_eq_true, false_implies, true_implies, ite_true, ite_false]
      exact ⟨zPo_l (by simp only [zpField, hv, he, zbd]) rfl hf, (h6 f1).tr (hw f2)⟩
    · simp (disch := omega) only [nI_leI, nI_ltI, nI_eq, nI_cl, qin_eq, nI_add, nI_mul, qb_z, qb_t, qb_f, nI_ne0', Nat.reduceAdd, Bool.false_eq_true, if_false, if_true, true_and, and_true, Nat.reduceEqDiff, not_true_eq_false, not_false_eq_true, false_implies, true_implies, ite_true, ite_false]
      have s2 := zpK_inr hB s1.2.1 (by decide) hq
      refine qBI.of (m_number hB s2.2 q1 (t := 1827) (by decide) (by decide) (by decide)) (by decide) (fun r σ3 g => ?_)
      obtain ⟨g, f3⟩ := g
      rcases zPo_c g with ⟨e, he, rfl, hf⟩ | ⟨u, hu, rfl, u1, u2⟩
      · simp (disch := omega) only [nI_leI, nI_ltI, nI_eq, nI_cl, qin_eq, nI_add, nI_mul, qb_z, qb_t, qb_f, nI_ne0', Nat.reduceAdd, Bool.false_eq_true, if_false, if_true, true_and, and_true, Nat.reduceEqDiff, not_true_eq_false, not_false_eq_true, false_implies, true_implies, ite_true, ite_false]
        exact ⟨zPo_l (by simp only [zpField, hv, hq, he, zbd]) rfl hf, ((h6 f1).tr (hw f2)).tr (h7 f3)⟩
      · simp (disch := omega) only [nI_leI, nI_ltI, nI_eq, nI_cl, qin_eq, nI_add, nI_mul, qb_z, qb_t, qb_f, nI_ne0', Nat.reduceAdd, Bool.false_eq_true, if_false, if_true, true_and, and_true, Nat.reduceEqDiff, not_true_eq_false, not_false_eq_true, false_implies, true_implies, ite_true, ite_false]
        refine ⟨zPo_r (a := ((v.1, u.1), u.2)) (by simp only [zpField, hv, hq, hu, zbd]) rfl ⟨u1, ?_, u2⟩, ((h6 f1).tr (hw f2)).tr (h7 f3)⟩
        rw [zPto_at f3 (by decide), zPw_at f2]
        exact v2
-- a boy
def zPby (b a j : Nat) : Prop := zPw a j ∨ (a = 140 ∧ (j = 1824 ∨ (1832 + 5 * b ≤ j ∧ j < 1836 + 5 * b)))
def zByF (B : Nat → Nat) (n b : Nat) (σ' : qSg) (v : (Nat × Nat × Nat × Nat) × Nat) : Prop :=
  zPd σ' B n v.2 ∧ σ'.1 140 (1832 + 5 * b) = nI v.1.1 ∧ σ'.1 140 (1832 + 5 * b + 1) = nI v.1.2.1 ∧ σ'.1 140 (1832 + 5 * b + 2) = nI v.1.2.2.1 ∧ σ'.1 140 (1832 + 5 * b + 3) = nI v.1.2.2.2 ∧ σ'.1 140 1824 = nI (b + 1)
theorem zPby_w {b : Nat} {σ σ' : qSg} (f : zF zPw σ σ') : zF (zPby b) σ σ' := f.wk fun _ _ h => Or.inl h
theorem zPby_t {b t : Nat} {σ σ' : qSg} (f : zF (zPto t) σ σ') (h : t = 1824 ∨ (1832 + 5 * b ≤ t ∧ t < 1836 + 5 * b)) : zF (zPby b) σ σ' := f.wk fun a j hh => by
  unfold zPto at hh
  unfold zPby
  rcases hh with hh | ⟨hh, h2⟩
  · exact Or.inl hh
  · exact Or.inr ⟨hh, by omega⟩
def zByQ (B : Nat → Nat) (n b : Nat) (R : zR ((Nat × Nat × Nat × Nat) × Nat)) (σ : qSg) : qQ := .inl fun r σ' => zPo R r σ' (zByF B n b σ') ∧ zF (zPby b) σ σ'
set_option maxRecDepth 20000 in
theorem boy_214 {B : Nat → Nat} {n b : Nat} (hb : b < 8) {R : zR ((Nat × Nat × Nat × Nat) × Nat)} {σ σ1 : qSg} (f : zF (zPby b) σ σ1) {v : (Nat × Nat × Nat × Nat) × Nat} (hR : R = .inr v) (h : zPd σ1 B n v.2) (h0 : σ1.1 140 1824 = nI b)
    (v1 : σ1.1 140 (1832 + 5 * b) = nI v.1.1) (v2 : σ1.1 140 (1832 + 5 * b + 1) = nI v.1.2.1) (v3 : σ1.1 140 (1832 + 5 * b + 2) = nI v.1.2.2.1) (v4 : σ1.1 140 (1832 + 5 * b + 3) = nI v.1.2.2.2) :
    qV 249 7 (zByQ B n b R σ) 214 [some (qr 139), some (qi (nI b)), some (qi (nI (1832 + 5 * b)))] [] σ1 := by
  unfold zByQ
  refine qV.go 30 [9999] ok_249 ?_
  simp only [qW_nop, qW_iconst, qW_iconstm, qW_bipush, qW_sipush, qW_ldcs, qW_iloadn, qW_aloadn, qW_istoren, qW_iadd, qW_isub, qW_imul, qW_dup2, qW_ifeq, qW_iceq, qW_ifne, qW_icne, qW_getf, qW_iald, qW_iast, qW_last, qW_cs1_0, qW_cv1_1, qW_cv1_2, qW_cv2_0, qW_cv3_0, qW_cv4_0, qW_iret1, Nat.reduceAdd, Nat.reduceMul, Nat.reduceBEq, Nat.reduceEqDiff, Nat.reduceLT, Nat.reduceLeDiff, Nat.zero_le, nI_add, nI_mul, nI_cl, qin_eq, qofI, qlg_0, qlg_s, qls_i0, qls_r0, qls_l0, qls_1, qls_2, qkl_i, qkl_r, qkl_l, qkl_n, qIsI_i, qIsL_l, qIsR_r, qint_i, qil_i, qil_r, qil_l, qf4_0, qf4_1, qf4_2, qf4_3, qf2_0, qf2_1, qcs_n, qcs_i, qcs_r, qcs_l, qst_n, qst_c, qJ_0, qJ_st, qJ_go, qfl_I, qfl_Z, qfl_L, qfl_R, qrI_i, qrL_l, qrV_v, qRcv_0, qRcv_s, eq_self, true_and, and_true, true_or, or_true, false_and, and_false, false_or, or_false, ite_true, if_true, if_false, Bool.true_or, Bool.false_or, Bool.or_false, beq_self_eq_true, Bool.false_eq_true, bX12_aBoy_0, bX12_aBoy_31, bX12_aBoy_50, bX12_aBoy_67, bX12_aBoy_146, bX12_aBoy_148, bX12_aBoy_190, bX12_aBoy_214, kX12_aBoy_0, kX12_aBoy_31, kX12_aBoy_50, kX12_aBoy_67, kX12_aBoy_146, kX12_aBoy_148, kX12_aBoy_190, kX12_aBoy_214, qK_139, qR_139_0, qK_140, qR_139_1, qK_141, qR_139_5, qK_142, qR_139_6, qK_143, qR_139_7, qK_144, qR_139_8, qK_145, qR_139_9, qK_146, qR_139_21, qK_147, qR_139_25, qK_148, qR_139_30, qK_149, qR_139_31, qK_150, qR_139_33, qK_151, qR_139_34, qK_152, qR_139_35, qK_153, qR_139_36, qK_154, qR_139_39, qK_155, qR_139_40, qK_156, qR_139_41, qK_157]
  rw [h0]
  simp (disch := omega) only [nI_leI, nI_ltI, nI_eq, nI_cl, qin_eq, nI_add, nI_mul, qb_z, qb_t, qb_f, nI_ne0', Nat.reduceAdd, Bool.false_eq_true, if_false, if_true, true_and, and_true, Nat.reduceEqDiff, not_true_eq_false, not_false_eq_true, false_implies, true_implies, ite_true, ite_false]
  refine ⟨zPo_r hR rfl ⟨h.at, ?_, ?_, ?_, ?_, ?_⟩, f.tr (zF.wi (Or.inr ⟨rfl, Or.inl rfl⟩))⟩
  · rw [qwi_1, if_neg (by omega)]; exact v1
  · rw [qwi_1, if_neg (by omega)]; exact v2
  · rw [qwi_1, if_neg (by omega)]; exact v3
  · rw [qwi_1, if_neg (by omega)]; exact v4
  · rw [qwi_1, if_pos ⟨rfl, rfl⟩]
set_option maxRecDepth 20000 in
theorem boy_190 {B : Nat → Nat} {n b : Nat} (hB : zBW B n) (hb : b < 8) {R : zR ((Nat × Nat × Nat × Nat) × Nat)} {σ σ1 : qSg} (f : zF (zPby b) σ σ1) {c p s q : Nat} (hq : q ≤ n) (hR : R = zbd (zpP B 8 2 q) fun e => .inr ((c, p, s, e.1), e.2)) (h : zPd σ1 B n q) (h0 : σ1.1 140 1824 = nI b)
    (v1 : σ1.1 140 (1832 + 5 * b) = nI c) (v2 : σ1.1 140 (1832 + 5 * b + 1) = nI p) (v3 : σ1.1 140 (1832 + 5 * b + 2) = nI s) (v4 : σ1.1 140 (1832 + 5 * b + 3) = nI 2) :
    qV 249 7 (zByQ B n b R σ) 190 [some (qr 139), some (qi (nI b)), some (qi (nI (1832 + 5 * b)))] [] σ1 := by
  have ht := tkE_spec hB hq
  refine qV.go 30 [214] ok_249 ?_
  simp only [qW_nop, qW_iconst, qW_iconstm, qW_bipush, qW_sipush, qW_ldcs, qW_iloadn, qW_aloadn, qW_istoren, qW_iadd, qW_isub, qW_imul, qW_dup2, qW_ifeq, qW_iceq, qW_ifne, qW_icne, qW_getf, qW_iald, qW_iast, qW_last, qW_cs1_0, qW_cv1_1, qW_cv1_2, qW_cv2_0, qW_cv3_0, qW_cv4_0, qW_iret1, Nat.reduceAdd, Nat.reduceMul, Nat.reduceBEq, Nat.reduceEqDiff, Nat.reduceLT, Nat.reduceLeDiff, Nat.zero_le, nI_add, nI_mul, nI_cl, qin_eq, qofI, qlg_0, qlg_s, qls_i0, qls_r0, qls_l0, qls_1, qls_2, qkl_i, qkl_r, qkl_l, qkl_n, qIsI_i, qIsL_l, qIsR_r, qint_i, qil_i, qil_r, qil_l, qf4_0, qf4_1, qf4_2, qf4_3, qf2_0, qf2_1, qcs_n, qcs_i, qcs_r, qcs_l, qst_n, qst_c, qJ_0, qJ_st, qJ_go, qfl_I, qfl_Z, qfl_L, qfl_R, qrI_i, qrL_l, qrV_v, qRcv_0, qRcv_s, eq_self, true_and, and_true, true_or, or_true, false_and, and_false, false_or, or_false, ite_true, if_true, if_false, Bool.true_or, Bool.false_or, Bool.or_false, beq_self_eq_true, Bool.false_eq_true, bX12_aBoy_0, bX12_aBoy_31, bX12_aBoy_50, bX12_aBoy_67, bX12_aBoy_146, bX12_aBoy_148, bX12_aBoy_190, bX12_aBoy_214, kX12_aBoy_0, kX12_aBoy_31, kX12_aBoy_50, kX12_aBoy_67, kX12_aBoy_146, kX12_aBoy_148, kX12_aBoy_190, kX12_aBoy_214, qK_139, qR_139_0, qK_140, qR_139_1, qK_141, qR_139_5, qK_142, qR_139_6, qK_143, qR_139_7, qK_144, qR_139_8, qK_145, qR_139_9, qK_146, qR_139_21, qK_147, qR_139_25, qK_148, qR_139_30, qK_149, qR_139_31, qK_150, qR_139_33, qK_151, qR_139_34, qK_152, qR_139_35, qK_153, qR_139_36, qK_154, qR_139_39, qK_155, qR_139_40, qK_156, qR_139_41, qK_157]
  refine qBI.of (m_isThere hB hq h (k := 8) (by decide)) (by decide) (fun r σ2 g => ?_)
  by_cases e8 : tkY B q = 8
  · rw [if_pos e8] at g
    obtain ⟨rfl, g1, g2⟩ := g
    simp (disch := omega) only [nI_leI, nI_ltI, nI_eq, nI_cl, qin_eq, nI_add, nI_mul, qb_z, qb_t, qb_f, nI_ne0', Nat.reduceAdd, Bool.false_eq_true, if_false, if_true, true_and, and_true, Nat.reduceEqDiff, not_true_eq_false, not_false_eq_true, false_implies, true_implies, ite_true, ite_false]
    refine qBI.of (m_number hB ht.2.2.1 g1 (t := 1832 + 5 * b + 3) (by omega) (by decide) (by decide)) (by decide) (fun r σ3 g => ?_)
    obtain ⟨g, f3⟩ := g
    have eP : zpP B 8 2 q = zpN B 0 9 (tkE B q) := by unfold zpP; rw [if_pos e8]
    have f23 := (f.tr (zPby_w g2)).tr (zPby_t f3 (Or.inr (by omega)))
    rcases zPo_c g with ⟨e, he, rfl, hf⟩ | ⟨v, hv, rfl, w1, w2⟩
    · simp (disch := omega) only [nI_leI, nI_ltI, nI_eq, nI_cl, qin_eq, nI_add, nI_mul, qb_z, qb_t, qb_f, nI_ne0', Nat.reduceAdd, Bool.false_eq_true, if_false, if_true, true_and, and_true, Nat.reduceEqDiff, not_true_eq_false, not_false_eq_true, false_implies, true_implies, ite_true, ite_false]
      unfold zByQ
      simp only [qrI_i]
      exact ⟨zPo_l (by rw [hR, eP, he]; rfl) rfl hf, f23⟩
    · simp (disch := omega) only [nI_leI, nI_ltI, nI_eq, nI_cl, qin_eq, nI_add, nI_mul, qb_z, qb_t, qb_f, nI_ne0', Nat.reduceAdd, Bool.false_eq_true, if_false, if_true, true_and, and_true, Nat.reduceEqDiff, not_true_eq_false, not_false_eq_true, false_implies, true_implies, ite_true, ite_false]
      refine boy_214 hb f23 (v := ((c, p, s, v.1), v.2)) (by rw [hR, eP, hv]; rfl) w1 ?_ ?_ ?_ ?_ w2
      · rw [zPto_at f3 (by omega), zPw_at g2]; exact h0
      · rw [zPto_at f3 (by omega), zPw_at g2]; exact v1
      · rw [zPto_at f3 (by omega), zPw_at g2]; exact v2
      · rw [zPto_at f3 (by omega), zPw_at g2]; exact v3
  · rw [if_neg e8] at g
    obtain ⟨rfl, rfl⟩ := g
    simp (disch := omega) only [nI_leI, nI_ltI, nI_eq, nI_cl, qin_eq, nI_add, nI_mul, qb_z, qb_t, qb_f, nI_ne0', Nat.reduceAdd, Bool.false_eq_true, if_false, if_true, true_and, and_true, Nat.reduceEqDiff, not_true_eq_false, not_false_eq_true, false_implies, true_implies, ite_true, ite_false]
    exact boy_214 hb f (v := ((c, p, s, 2), q)) (by rw [hR]; unfold zpP; rw [if_neg e8]; rfl) h h0 v1 v2 v3 v4
set_option maxRecDepth 20000 in
theorem boy_148 {B : Nat → Nat} {n b : Nat} (hB : zBW B n) (hb : b < 8) {R : zR ((Nat × Nat × Nat × Nat) × Nat)} {σ σ1 : qSg} (f : zF (zPby b) σ σ1) {c p q : Nat} (hq : q ≤ n) (hR : R = zbd (zpP B 7 1 q) fun s => zbd (zpP B 8 2 s.2) fun e => .inr ((c, p, s.1, e.1), e.2)) (h : zPd σ1 B n q) (h0 : σ1.1 140 1824 = nI b)
    (v1 : σ1.1 140 (1832 + 5 * b) = nI c) (v2 : σ1.1 140 (1832 + 5 * b + 1) = nI p) :
    qV 249 7 (zByQ B n b R σ) 148 [some (qr 139), some (qi (nI b)), some (qi (nI (1832 + 5 * b)))] [] σ1 := by
  have ht := tkE_spec hB hq
  refine qV.go 30 [190, 214] ok_249 ?_
  simp only [qW_nop, qW_iconst, qW_iconstm, qW_bipush, qW_sipush, qW_ldcs, qW_iloadn, qW_aloadn, qW_istoren, qW_iadd, qW_isub, qW_imul, qW_dup2, qW_ifeq, qW_iceq, qW_ifne, qW_icne, qW_getf, qW_iald, qW_iast, qW_last, qW_cs1_0, qW_cv1_1, qW_cv1_2, qW_cv2_0, qW_cv3_0, qW_cv4_0, qW_iret1, Nat.reduceAdd, Nat.reduceMul, Nat.reduceBEq, Nat.reduceEqDiff, Nat.reduceLT, Nat.reduceLeDiff, Nat.zero_le, nI_add, nI_mul, nI_cl, qin_eq, qofI, qlg_0, qlg_s, qls_i0, qls_r0, qls_l0, qls_1, qls_2, qkl_i, qkl_r, qkl_l, qkl_n, qIsI_i, qIsL_l, qIsR_r, qint_i, qil_i, qil_r, qil_l, qf4_0, qf4_1, qf4_2, qf4_3, qf2_0, qf2_1, qcs_n, qcs_i, qcs_r, qcs_l, qst_n, qst_c, qJ_0, qJ_st, qJ_go, qfl_I, qfl_Z, qfl_L, qfl_R, qrI_i, qrL_l, qrV_v, qRcv_0, qRcv_s, eq_self, true_and, and_true, true_or, or_true, false_and, and_false, false_or, or_false, ite_true, if_true, if_false, Bool.true_or, Bool.false_or, Bool.or_false, beq_self_eq_true, Bool.false_eq_true, bX12_aBoy_0, bX12_aBoy_31, bX12_aBoy_50, bX12_aBoy_67, bX12_aBoy_146, bX12_aBoy_148, bX12_aBoy_190, bX12_aBoy_214, kX12_aBoy_0, kX12_aBoy_31, kX12_aBoy_50, kX12_aBoy_67, kX12_aBoy_146, kX12_aBoy_148, kX12_aBoy_190, kX12_aBoy_214, qK_139, qR_139_0, qK_140, qR_139_1, qK_141, qR_139_5, qK_142, qR_139_6, qK_143, qR_139_7, qK_144, qR_139_8, qK_145, qR_139_9, qK_146, qR_139_21, qK_147, qR_139_25, qK_148, qR_139_30, qK_149, qR_139_31, qK_150, qR_139_33, qK_151, qR_139_34, qK_152, qR_139_35, qK_153, qR_139_36, qK_154, qR_139_39, qK_155, qR_139_40, qK_156, qR_139_41, qK_157]
  simp (disch := omega) only [nI_leI, nI_ltI, nI_eq, nI_cl, qin_eq, nI_add, nI_mul, qb_z, qb_t, qb_f, nI_ne0', Nat.reduceAdd, Bool.false_eq_true, if_false, if_true, true_and, and_true, Nat.reduceEqDiff, not_true_eq_false, not_false_eq_true, false_implies, true_implies, ite_true, ite_false]
  have hh : zPd (qwi (qwi σ1 140 (1832 + 5 * b + 2) (nI 1)) 140 (1832 + 5 * b + 3) (nI 2)) B n q := h.at.at
  have ff : zF (zPby b) σ (qwi (qwi σ1 140 (1832 + 5 * b + 2) (nI 1)) 140 (1832 + 5 * b + 3) (nI 2)) := (f.tr (zF.wi (Or.inr ⟨rfl, by omega⟩))).tr (zF.wi (Or.inr ⟨rfl, by omega⟩))
  have x0 : (qwi (qwi σ1 140 (1832 + 5 * b + 2) (nI 1)) 140 (1832 + 5 * b + 3) (nI 2)).1 140 1824 = nI b := by rw [qwi_1, if_neg (by omega), qwi_1, if_neg (by omega)]; exact h0
  have x1 : (qwi (qwi σ1 140 (1832 + 5 * b + 2) (nI 1)) 140 (1832 + 5 * b + 3) (nI 2)).1 140 (1832 + 5 * b) = nI c := by rw [qwi_1, if_neg (by omega), qwi_1, if_neg (by omega)]; exact v1
  have x2 : (qwi (qwi σ1 140 (1832 + 5 * b + 2) (nI 1)) 140 (1832 + 5 * b + 3) (nI 2)).1 140 (1832 + 5 * b + 1) = nI p := by rw [qwi_1, if_neg (by omega), qwi_1, if_neg (by omega)]; exact v2
  have x3 : (qwi (qwi σ1 140 (1832 + 5 * b + 2) (nI 1)) 140 (1832 + 5 * b + 3) (nI 2)).1 140 (1832 + 5 * b + 2) = nI 1 := by rw [qwi_1, if_neg (by omega), qwi_1, if_pos ⟨rfl, rfl⟩]
  have x4 : (qwi (qwi σ1 140 (1832 + 5 * b + 2) (nI 1)) 140 (1832 + 5 * b + 3) (nI 2)).1 140 (1832 + 5 * b + 3) = nI 2 := by rw [qwi_1, if_pos ⟨rfl, rfl⟩]
  generalize qwi (qwi σ1 140 (1832 + 5 * b + 2) (nI 1)) 140 (1832 + 5 * b + 3) (nI 2) = σ2 at hh ff x0 x1 x2 x3 x4 ⊢
  refine qBI.of (m_isThere hB hq hh (k := 7) (by decide)) (by decide) (fun r σ3 g => ?_)
  by_cases e8 : tkY B q = 7
  · rw [if_pos e8] at g
    obtain ⟨rfl, g1, g2⟩ := g
    simp (disch := omega) only [nI_leI, nI_ltI, nI_eq, nI_cl, qin_eq, nI_add, nI_mul, qb_z, qb_t, qb_f, nI_ne0', Nat.reduceAdd, Bool.false_eq_true, if_false, if_true, true_and, and_true, Nat.reduceEqDiff, not_true_eq_false, not_false_eq_true, false_implies, true_implies, ite_true, ite_false]
    refine qBI.of (m_number hB ht.2.2.1 g1 (t := 1832 + 5 * b + 2) (by omega) (by decide) (by decide)) (by decide) (fun r σ4 g => ?_)
    obtain ⟨g, f3⟩ := g
    have eP : zpP B 7 1 q = zpN B 0 9 (tkE B q) := by unfold zpP; rw [if_pos e8]
    have f23 := (ff.tr (zPby_w g2)).tr (zPby_t f3 (Or.inr (by omega)))
    rcases zPo_c g with ⟨e, he, rfl, hf⟩ | ⟨v, hv, rfl, w1, w2⟩
    · simp (disch := omega) only [nI_leI, nI_ltI, nI_eq, nI_cl, qin_eq, nI_add, nI_mul, qb_z, qb_t, qb_f, nI_ne0', Nat.reduceAdd, Bool.false_eq_true, if_false, if_true, true_and, and_true, Nat.reduceEqDiff, not_true_eq_false, not_false_eq_true, false_implies, true_implies, ite_true, ite_false]
      unfold zByQ
      simp only [qrI_i]
      exact ⟨zPo_l (by rw [hR, eP, he]; rfl) rfl hf, f23⟩
    · simp (disch := omega) only [nI_leI, nI_ltI, nI_eq, nI_cl, qin_eq, nI_add, nI_mul, qb_z, qb_t, qb_f, nI_ne0', Nat.reduceAdd, Bool.false_eq_true, if_false, if_true, true_and, and_true, Nat.reduceEqDiff, not_true_eq_false, not_false_eq_true, false_implies, true_implies, ite_true, ite_false]
      have s4 := zpN_inr hB ht.2.2.1 hv
      refine boy_190 hB hb f23 s4.2.1 (by rw [hR, eP, hv]; rfl) w1 ?_ ?_ ?_ w2 ?_
      · rw [zPto_at f3 (by omega), zPw_at g2]; exact x0
      · rw [zPto_at f3 (by omega), zPw_at g2]; exact x1
      · rw [zPto_at f3 (by omega), zPw_at g2]; exact x2
      · rw [zPto_at f3 (by omega), zPw_at g2]; exact x4
  · rw [if_neg e8] at g
    obtain ⟨rfl, rfl⟩ := g
    simp (disch := omega) only [nI_leI, nI_ltI, nI_eq, nI_cl, qin_eq, nI_add, nI_mul, qb_z, qb_t, qb_f, nI_ne0', Nat.reduceAdd, Bool.false_eq_true, if_false, if_true, true_and, and_true, Nat.reduceEqDiff, not_true_eq_false, not_false_eq_true, false_implies, true_implies, ite_true, ite_false]
    exact boy_190 hB hb ff hq (by rw [hR]; unfold zpP; rw [if_neg e8]; rfl) hh x0 x1 x2 x3 x4
