/-! the class: a camp's cells change; who is due; whom all would hear -/
def zXf (r a : Nat) (_ : Nat) : Prop := r ≤ a ∧ a ≤ r + 11
theorem znear_cg {C C' : zC} (h0 : C' 0 0 = C 0 0) (h2 : C' 0 2 = C 0 2) (h1 : ∀ i, C' 1 i = C 1 i) (h4 : ∀ i, C' 4 i = C 4 i) (b : Nat) : znear C' b = znear C b := by
  unfold znear zfar
  simp only [h0, h2, h1, h4]
/-- a number of a boy, of a quarrel, a number of the camp -/
theorem zX0.ub {σ : qSg} {r : Nat} {C : zC} (h : zX0 σ r C) {b f v : Nat} (hf : f < 5) : zX0 (qwi σ (r + (2 + f)) b (nI v)) r (zu C (1 + f) b v) := by
  obtain ⟨h1, h2, h3⟩ := h
  have e : ∀ i, zu C (1 + f) b v 0 i = C 0 i := fun i => zu_ne (by omega)
  refine ⟨?_, fun b' hb g hg => ?_, fun q hq g hg => ?_⟩
  · simp only [e]
    refine ⟨?_, ?_, ?_, ?_, ?_, ?_⟩ <;> rw [qwi_1, if_neg (by omega)]
    · exact h1.1
    · exact h1.2.1
    · exact h1.2.2.1
    · exact h1.2.2.2.1
    · exact h1.2.2.2.2.1
    · exact h1.2.2.2.2.2
  · rw [e] at hb
    rw [qwi_1]
    by_cases q : g = f ∧ b' = b
    · obtain ⟨rfl, rfl⟩ := q
      rw [if_pos ⟨rfl, rfl⟩, zu_eq]
    · rw [if_neg (by omega), zu_ne (by omega)]
      exact h2 b' hb g hg
  · rw [e] at hq
    rw [qwi_1, if_neg (by omega), zu_ne (by omega)]
    exact h3 q hq g hg
theorem zX0.uq {σ : qSg} {r : Nat} {C : zC} (h : zX0 σ r C) {q f v : Nat} (hf : f < 4) : zX0 (qwi σ (r + (8 + f)) q (nI v)) r (zu C (6 + f) q v) := by
  obtain ⟨h1, h2, h3⟩ := h
  have e : ∀ i, zu C (6 + f) q v 0 i = C 0 i := fun i => zu_ne (by omega)
  refine ⟨?_, fun b' hb g hg => ?_, fun q' hq g hg => ?_⟩
  · simp only [e]
    refine ⟨?_, ?_, ?_, ?_, ?_, ?_⟩ <;> rw [qwi_1, if_neg (by omega)]
    · exact h1.1
    · exact h1.2.1
    · exact h1.2.2.1
    · exact h1.2.2.2.1
    · exact h1.2.2.2.2.1
    · exact h1.2.2.2.2.2
  · rw [e] at hb
    rw [qwi_1, if_neg (by omega), zu_ne (by omega)]
    exact h2 b' hb g hg
  · rw [e] at hq
    rw [qwi_1]
    by_cases k : g = f ∧ q' = q
    · obtain ⟨rfl, rfl⟩ := k
      rw [if_pos ⟨rfl, rfl⟩, zu_eq]
    · rw [if_neg (by omega), zu_ne (by omega)]
      exact h3 q' hq g hg
theorem zX0.um {σ : qSg} {r : Nat} {C : zC} (h : zX0 σ r C) {v : Nat} : zX0 (qwi σ r 3 (nI v)) r (zu C 0 5 v) := by
  obtain ⟨h1, h2, h3⟩ := h
  have e : ∀ f i, ¬ (f = 0 ∧ i = 5) → zu C 0 5 v f i = C f i := fun f i hn => zu_ne hn
  refine ⟨?_, fun b' hb g hg => ?_, fun q' hq g hg => ?_⟩
  · rw [e 0 2 (by decide), e 0 3 (by decide), e 0 4 (by decide), e 0 0 (by decide), e 0 1 (by decide), zu_eq]
    refine ⟨?_, ?_, ?_, ?_, ?_, ?_⟩
    · rw [qwi_1, if_neg (by omega)]; exact h1.1
    · rw [qwi_1, if_neg (by omega)]; exact h1.2.1
    · rw [qwi_1, if_neg (by omega)]; exact h1.2.2.1
    · rw [qwi_1, if_pos ⟨rfl, rfl⟩]
    · rw [qwi_1, if_neg (by omega)]; exact h1.2.2.2.2.1
    · rw [qwi_1, if_neg (by omega)]; exact h1.2.2.2.2.2
  · rw [e 0 0 (by decide)] at hb
    rw [qwi_1, if_neg (by omega), e _ _ (by omega)]
    exact h2 b' hb g hg
  · rw [e 0 1 (by decide)] at hq
    rw [qwi_1, if_neg (by omega), e _ _ (by omega)]
    exact h3 q' hq g hg
theorem zX.uq {σ : qSg} {r : Nat} {C : zC} (h : zX σ r C) {q f v : Nat} (hf : f < 4) : zX (qwi σ (r + (8 + f)) q (nI v)) r (zu C (6 + f) q v) := by
  refine ⟨h.1.uq hf, fun b hb => ?_⟩
  have e : ∀ i, zu C (6 + f) q v 0 i = C 0 i := fun i => zu_ne (by omega)
  rw [e] at hb
  rw [qwi_1, if_neg (by omega), znear_cg (e 0) (e 2) (fun i => zu_ne (by omega)) (fun i => zu_ne (by omega))]
  exact h.2 b hb
theorem zX.ub {σ : qSg} {r : Nat} {C : zC} (h : zX σ r C) {b f v : Nat} (hf : f < 5) (h0 : f ≠ 0) (h3 : f ≠ 3) : zX (qwi σ (r + (2 + f)) b (nI v)) r (zu C (1 + f) b v) := by
  refine ⟨h.1.ub hf, fun b' hb => ?_⟩
  have e : ∀ i, zu C (1 + f) b v 0 i = C 0 i := fun i => zu_ne (by omega)
  rw [e] at hb
  rw [qwi_1, if_neg (by omega), znear_cg (e 0) (e 2) (fun i => zu_ne (by omega)) (fun i => zu_ne (by omega))]
  exact h.2 b' hb
theorem zX.um {σ : qSg} {r : Nat} {C : zC} (h : zX σ r C) {v : Nat} : zX (qwi σ r 3 (nI v)) r (zu C 0 5 v) := by
  refine ⟨h.1.um, fun b' hb => ?_⟩
  have e : ∀ f i, ¬ (f = 0 ∧ i = 5) → zu C 0 5 v f i = C f i := fun f i hn => zu_ne hn
  rw [e _ _ (by decide)] at hb
  rw [qwi_1, if_neg (by omega), znear_cg (e _ _ (by decide)) (e _ _ (by decide)) (fun i => e _ _ (by omega)) (fun i => e _ _ (by omega))]
  exact h.2 b' hb
set_option maxRecDepth 20000 in
theorem x_due {σ : qSg} {r : Nat} {C : zC} (hr : zCb r) (h : zX σ r C) (hw : zW C) {b q up : Nat} (hb : b < C 0 0) (hq : q < C 0 1) (hu : up < 2147483648) : qFI 2 26 [qr r, qi (nI b), qi (nI q), qi (nI up)] σ (iI (zdue C b q up)) := by
  obtain ⟨wb, wq, ww1, ww2, wh1, wh2, wo, wm, wB, wQ⟩ := id hw
  have hn := znear_lt hw b
  have hl : znear C b &&& up < 256 := Nat.lt_of_le_of_lt Nat.and_le_left hn
  refine qCI.of [some (qr r), some (qi (nI b)), some (qi (nI q)), some (qi (nI up))] ok_26 (Nat.le_of_ble_eq_true rfl) rfl ?_
  refine qV.go 30 [16, 19] ok_26 ?_
  simp only [qW_nop, qW_ldc, qW_iloadn, qW_aloadn, qW_iadd, qW_isub, qW_imul, qW_iand, qW_ifeq, qW_ifne, qW_getf, qW_iald, qW_cs1_0, qW_cv2_0, qW_iret0, Nat.reduceAdd, Nat.reduceMul, Nat.reduceBEq, Nat.reduceEqDiff, Nat.reduceLT, Nat.reduceLeDiff, Nat.zero_le, nI_add, nI_mul, nI_cl, qin_eq, qofI, qlg_0, qlg_s, qls_i0, qls_r0, qls_l0, qls_1, qls_2, qkl_i, qkl_r, qkl_l, qkl_n, qIsI_i, qIsL_l, qIsR_r, qint_i, qil_i, qil_r, qil_l, qf4_0, qf4_1, qf4_2, qf4_3, qf2_0, qf2_1, qcs_n, qcs_i, qcs_r, qcs_l, qst_n, qst_c, qJ_0, qJ_st, qJ_go, qfl_I, qfl_Z, qfl_L, qfl_R, qrI_i, qrL_l, qrV_v, qRcv_0, qRcv_s, eq_self, true_and, and_true, true_or, or_true, false_and, and_false, false_or, or_false, ite_true, if_true, if_false, Bool.true_or, Bool.false_or, Bool.or_false, beq_self_eq_true, Bool.false_eq_true, bX1_dueMinute_0, bX1_dueMinute_16, bX1_dueMinute_19, kX1_dueMinute_0, kX1_dueMinute_16, kX1_dueMinute_19, zCb_k hr, zCb_6 hr, zCb_7 hr, zCb_8 hr, zCb_9 hr, zCb_10 hr, zCb_11 hr, zCb_12 hr, zCb_13 hr, zCb_14 hr, zCb_15 hr, zCb_16 hr, zCb_a1 hr, zCb_a2 hr, zCb_a3 hr, zCb_a4 hr, zCb_a5 hr, zCb_a6 hr, zCb_a7 hr, zCb_a8 hr, zCb_a9 hr, zCb_a10 hr, zCb_a11 hr]
  refine qBI.fn (x_hasBoy hr h.1 hw _) (by decide) ?_
  rw [zrg_k hb (by omega)]
  simp (disch := omega) only [nI_leI, nI_ltI, nI_eq, nI_cl, qin_eq, nI_add, nI_mul, qb_z, qb_t, qb_f, nI_ne0', Nat.reduceAdd, Bool.false_eq_true, if_false, if_true, true_and, and_true, Nat.reduceEqDiff, not_true_eq_false, not_false_eq_true, false_implies, true_implies, ite_true, ite_false]
  refine qBI.fn (x_hasQuarrel hr h.1 hw _) (by decide) ?_
  rw [zrg_k hq (by omega)]
  simp (disch := omega) only [nI_leI, nI_ltI, nI_eq, nI_cl, qin_eq, nI_add, nI_mul, qb_z, qb_t, qb_f, nI_ne0', Nat.reduceAdd, Bool.false_eq_true, if_false, if_true, true_and, and_true, Nat.reduceEqDiff, not_true_eq_false, not_false_eq_true, false_implies, true_implies, ite_true, ite_false]
  refine qV.go 30 [9999] ok_26 ?_
  simp only [qW_nop, qW_ldc, qW_iloadn, qW_aloadn, qW_iadd, qW_isub, qW_imul, qW_iand, qW_ifeq, qW_ifne, qW_getf, qW_iald, qW_cs1_0, qW_cv2_0, qW_iret0, Nat.reduceAdd, Nat.reduceMul, Nat.reduceBEq, Nat.reduceEqDiff, Nat.reduceLT, Nat.reduceLeDiff, Nat.zero_le, nI_add, nI_mul, nI_cl, qin_eq, qofI, qlg_0, qlg_s, qls_i0, qls_r0, qls_l0, qls_1, qls_2, qkl_i, qkl_r, qkl_l, qkl_n, qIsI_i, qIsL_l, qIsR_r, qint_i, qil_i, qil_r, qil_l, qf4_0, qf4_1, qf4_2, qf4_3, qf2_0, qf2_1, qcs_n, qcs_i, qcs_r, qcs_l, qst_n, qst_c, qJ_0, qJ_st, qJ_go, qfl_I, qfl_Z, qfl_L, qfl_R, qrI_i, qrL_l, qrV_v, qRcv_0, qRcv_s, eq_self, true_and, and_true, true_or, or_true, false_and, and_false, false_or, or_false, ite_true, if_true, if_false, Bool.true_or, Bool.false_or, Bool.or_false, beq_self_eq_true, Bool.false_eq_true, bX1_dueMinute_0, bX1_dueMinute_16, bX1_dueMinute_19, kX1_dueMinute_0, kX1_dueMinute_16, kX1_dueMinute_19, zCb_k hr, zCb_6 hr, zCb_7 hr, zCb_8 hr, zCb_9 hr, zCb_10 hr, zCb_11 hr, zCb_12 hr, zCb_13 hr, zCb_14 hr, zCb_15 hr, zCb_16 hr, zCb_a1 hr, zCb_a2 hr, zCb_a3 hr, zCb_a4 hr, zCb_a5 hr, zCb_a6 hr, zCb_a7 hr, zCb_a8 hr, zCb_a9 hr, zCb_a10 hr, zCb_a11 hr]
  simp (disch := omega) only [nI_leI, nI_ltI, nI_eq, nI_cl, qin_eq, nI_add, nI_mul, qb_z, qb_t, qb_f, nI_ne0', Nat.reduceAdd, Bool.false_eq_true, if_false, if_true, true_and, and_true, Nat.reduceEqDiff, not_true_eq_false, not_false_eq_true, false_implies, true_implies, ite_true, ite_false]
  rw [h.2 b hb, nI_and]
  refine qBI.fn (x_bits σ (by omega)) (by decide) ?_
  rw [h.1.gr hq, h.1.pr hb, h.1.so hb]
  unfold zdue
  refine ⟨?_, rfl⟩
  rw [nI_add, nI_mul, iI_nat, iI_nat, iI_sub]
  congr 1
set_option maxRecDepth 20000 in
theorem x_listen {σ : qSg} {r : Nat} {C : zC} (hr : zCb r) (h : zX0 σ r C) (hw : zW C) : qCV 3 18 [qr r] σ (fun σ' => zX σ' r C ∧ zF (fun a _ => a = r + 7) σ σ') := by
  obtain ⟨wb, wq, ww1, ww2, wh1, wh2, wo, wm, wB, wQ⟩ := id hw
  refine qCV.of [some (qr r), none, none, none] ok_18 (Nat.le_of_ble_eq_true rfl) rfl ?_
  refine qV.go 30 [2] ok_18 ?_
  simp only [qW_nop, qW_iconst, qW_iloadn, qW_aloadn, qW_istoren, qW_iinc, qW_ior, qW_ishl, qW_iceq, qW_icge, qW_icgt, qW_goto, qW_getf, qW_iald, qW_iast, qW_vret, qW_cv3_0, Nat.reduceAdd, Nat.reduceMul, Nat.reduceBEq, Nat.reduceEqDiff, Nat.reduceLT, Nat.reduceLeDiff, Nat.zero_le, nI_add, nI_mul, nI_cl, qin_eq, qofI, qlg_0, qlg_s, qls_i0, qls_r0, qls_l0, qls_1, qls_2, qkl_i, qkl_r, qkl_l, qkl_n, qIsI_i, qIsL_l, qIsR_r, qint_i, qil_i, qil_r, qil_l, qf4_0, qf4_1, qf4_2, qf4_3, qf2_0, qf2_1, qcs_n, qcs_i, qcs_r, qcs_l, qst_n, qst_c, qJ_0, qJ_st, qJ_go, qfl_I, qfl_Z, qfl_L, qfl_R, qrI_i, qrL_l, qrV_v, qRcv_0, qRcv_s, eq_self, true_and, and_true, true_or, or_true, false_and, and_false, false_or, or_false, ite_true, if_true, if_false, Bool.true_or, Bool.false_or, Bool.or_false, beq_self_eq_true, Bool.false_eq_true, bX1_listen_0, bX1_listen_2, bX1_listen_14, bX1_listen_48, bX1_listen_54, bX1_listen_67, kX1_listen_0, kX1_listen_2, kX1_listen_14, kX1_listen_48, kX1_listen_54, kX1_listen_67, zCb_k hr, zCb_6 hr, zCb_7 hr, zCb_8 hr, zCb_9 hr, zCb_10 hr, zCb_11 hr, zCb_12 hr, zCb_13 hr, zCb_14 hr, zCb_15 hr, zCb_16 hr, zCb_a1 hr, zCb_a2 hr, zCb_a3 hr, zCb_a4 hr, zCb_a5 hr, zCb_a6 hr, zCb_a7 hr, zCb_a8 hr, zCb_a9 hr, zCb_a10 hr, zCb_a11 hr]
  refine qdown (n := C 0 0) (P := fun b => ∀ σ1 (l2 l3 : Option qPV), (∀ i, i < b → σ1.1 (r + 7) i = nI (znear C i)) → zF (fun a _ => a = r + 7) σ σ1 → qV 18 3 (.inr (.inr fun σ' => zX σ' r C ∧ zF (fun a _ => a = r + 7) σ σ')) 2 [some (qr r), some (qi (nI b)), l2, l3] [] σ1) (fun b hb ih => ?_) 0 (Nat.zero_le _) σ none none (fun i hi => absurd hi (Nat.not_lt_zero _)) zF.rf
  intro σ1 l2 l3 a1 f1
  have h1 : zX0 σ1 r C := by
    refine ⟨?_, fun b' hb g hg => ?_, fun q' hq g hg => ?_⟩
    · simp only [f1.1 r _ (by omega)]; exact h.1
    · rw [f1.1 _ _ (by omega)]; exact h.2.1 b' hb g hg
    · rw [f1.1 _ _ (by omega)]; exact h.2.2 q' hq g hg
  refine qV.go 30 [2, 14] ok_18 ?_
  simp only [qW_nop, qW_iconst, qW_iloadn, qW_aloadn, qW_istoren, qW_iinc, qW_ior, qW_ishl, qW_iceq, qW_icge, qW_icgt, qW_goto, qW_getf, qW_iald, qW_iast, qW_vret, qW_cv3_0, Nat.reduceAdd, Nat.reduceMul, Nat.reduceBEq, Nat.reduceEqDiff, Nat.reduceLT, Nat.reduceLeDiff, Nat.zero_le, nI_add, nI_mul, nI_cl, qin_eq, qofI, qlg_0, qlg_s, qls_i0, qls_r0, qls_l0, qls_1, qls_2, qkl_i, qkl_r, qkl_l, qkl_n, qIsI_i, qIsL_l, qIsR_r, qint_i, qil_i, qil_r, qil_l, qf4_0, qf4_1, qf4_2, qf4_3, qf2_0, qf2_1, qcs_n, qcs_i, qcs_r, qcs_l, qst_n, qst_c, qJ_0, qJ_st, qJ_go, qfl_I, qfl_Z, qfl_L, qfl_R, qrI_i, qrL_l, qrV_v, qRcv_0, qRcv_s, eq_self, true_and, and_true, true_or, or_true, false_and, and_false, false_or, or_false, ite_true, if_true, if_false, Bool.true_or, Bool.false_or, Bool.or_false, beq_self_eq_true, Bool.false_eq_true, bX1_listen_0, bX1_listen_2, bX1_listen_14, bX1_listen_48, bX1_listen_54, bX1_listen_67, kX1_listen_0, kX1_listen_2, kX1_listen_14, kX1_listen_48, kX1_listen_54, kX1_listen_67, zCb_k hr, zCb_6 hr, zCb_7 hr, zCb_8 hr, zCb_9 hr, zCb_10 hr, zCb_11 hr, zCb_12 hr, zCb_13 hr, zCb_14 hr, zCb_15 hr, zCb_16 hr, zCb_a1 hr, zCb_a2 hr, zCb_a3 hr, zCb_a4 hr, zCb_a5 hr, zCb_a6 hr, zCb_a7 hr, zCb_a8 hr, zCb_a9 hr, zCb_a10 hr, zCb_a11 hr]
  rw [h1.b]
  simp (disch := omega) only [nI_leI, nI_ltI, nI_eq, nI_cl, qin_eq, nI_add, nI_mul, qb_z, qb_t, qb_f, nI_ne0', Nat.reduceAdd, Bool.false_eq_true, if_false, if_true, true_and, and_true, Nat.reduceEqDiff, not_true_eq_false, not_false_eq_true, false_implies, true_implies, ite_true, ite_false]
  refine ⟨fun g => ?_, fun g => ?_⟩
  · have : b = C 0 0 := by omega
    subst this
    exact ⟨⟨h1, a1⟩, f1⟩
  · have hb1 : b < C 0 0 := by omega
    refine qdown (n := C 0 0) (P := fun o => qV 18 3 (.inr (.inr fun σ' => zX σ' r C ∧ zF (fun a _ => a = r + 7) σ σ')) 14 [some (qr r), some (qi (nI b)), some (qi (nI (bm o (fun o => decide (o ≠ b) && decide (zfar C o b ≤ C 4 b))))), some (qi (nI o))] [] σ1) (fun o ho ih2 => ?_) 0 (Nat.zero_le _)
    refine qV.go 30 [2, 14, 48] ok_18 ?_
    simp only [qW_nop, qW_iconst, qW_iloadn, qW_aloadn, qW_istoren, qW_iinc, qW_ior, qW_ishl, qW_iceq, qW_icge, qW_icgt, qW_goto, qW_getf, qW_iald, qW_iast, qW_vret, qW_cv3_0, Nat.reduceAdd, Nat.reduceMul, Nat.reduceBEq, Nat.reduceEqDiff, Nat.reduceLT, Nat.reduceLeDiff, Nat.zero_le, nI_add, nI_mul, nI_cl, qin_eq, qofI, qlg_0, qlg_s, qls_i0, qls_r0, qls_l0, qls_1, qls_2, qkl_i, qkl_r, qkl_l, qkl_n, qIsI_i, qIsL_l, qIsR_r, qint_i, qil_i, qil_r, qil_l, qf4_0, qf4_1, qf4_2, qf4_3, qf2_0, qf2_1, qcs_n, qcs_i, qcs_r, qcs_l, qst_n, qst_c, qJ_0, qJ_st, qJ_go, qfl_I, qfl_Z, qfl_L, qfl_R, qrI_i, qrL_l, qrV_v, qRcv_0, qRcv_s, eq_self, true_and, and_true, true_or, or_true, false_and, and_false, false_or, or_false, ite_true, if_true, if_false, Bool.true_or, Bool.false_or, Bool.or_false, beq_self_eq_true, Bool.false_eq_true, bX1_listen_0, bX1_listen_2, bX1_listen_14, bX1_listen_48, bX1_listen_54, bX1_listen_67, kX1_listen_0, kX1_listen_2, kX1_listen_14, kX1_listen_48, kX1_listen_54, kX1_listen_67, zCb_k hr, zCb_6 hr, zCb_7 hr, zCb_8 hr, zCb_9 hr, zCb_10 hr, zCb_11 hr, zCb_12 hr, zCb_13 hr, zCb_14 hr, zCb_15 hr, zCb_16 hr, zCb_a1 hr, zCb_a2 hr, zCb_a3 hr, zCb_a4 hr, zCb_a5 hr, zCb_a6 hr, zCb_a7 hr, zCb_a8 hr, zCb_a9 hr, zCb_a10 hr, zCb_a11 hr]
    rw [h1.b]
    simp (disch := omega) only [nI_leI, nI_ltI, nI_eq, nI_cl, qin_eq, nI_add, nI_mul, qb_z, qb_t, qb_f, nI_ne0', Nat.reduceAdd, Bool.false_eq_true, if_false, if_true, true_and, and_true, Nat.reduceEqDiff, not_true_eq_false, not_false_eq_true, false_implies, true_implies, ite_true, ite_false]
    refine ⟨fun g2 => ?_, fun g2 => ?_⟩
    · have : o = C 0 0 := by omega
      subst this
      have e : bm (C 0 0) (fun o => decide (o ≠ b) && decide (zfar C o b ≤ C 4 b)) = znear C b := rfl
      rw [e]
      have := ih hb1 (qwi σ1 (r + 7) b (nI (znear C b))) (some (qi (nI (znear C b)))) (some (qi (nI (C 0 0)))) (fun i hi => ?_) (f1.tr (zF.wi rfl))
      · exact this
      · rw [qwi_1]
        by_cases e2 : i = b
        · subst e2; rw [if_pos ⟨rfl, rfl⟩]
        · rw [if_neg (by omega)]; exact a1 i (by omega)
    · have ho1 : o < C 0 0 := by omega
      have hf := zfar_lt hw ho1 hb1
      have hf2 := zfar_lt hw hb1 ho1
      have g4 := wB b hb1
      have es : zfar C b o = zfar C o b := by unfold zfar zdist; omega
      have st : ∀ v, v = nI (bm (o + 1) (fun o => decide (o ≠ b) && decide (zfar C o b ≤ C 4 b))) → qV 18 3 (.inr (.inr fun σ' => zX σ' r C ∧ zF (fun a _ => a = r + 7) σ σ')) 48 [some (qr r), some (qi (nI b)), some (qi v), some (qi (nI o))] [] σ1 := by
        intro v hv
        subst hv
        refine qV.go 30 [14] ok_18 ?_
        simp only [qW_nop, qW_iconst, qW_iloadn, qW_aloadn, qW_istoren, qW_iinc, qW_ior, qW_ishl, qW_iceq, qW_icge, qW_icgt, qW_goto, qW_getf, qW_iald, qW_iast, qW_vret, qW_cv3_0, Nat.reduceAdd, Nat.reduceMul, Nat.reduceBEq, Nat.reduceEqDiff, Nat.reduceLT, Nat.reduceLeDiff, Nat.zero_le, nI_add, nI_mul, nI_cl, qin_eq, qofI, qlg_0, qlg_s, qls_i0, qls_r0, qls_l0, qls_1, qls_2, qkl_i, qkl_r, qkl_l, qkl_n, qIsI_i, qIsL_l, qIsR_r, qint_i, qil_i, qil_r, qil_l, qf4_0, qf4_1, qf4_2, qf4_3, qf2_0, qf2_1, qcs_n, qcs_i, qcs_r, qcs_l, qst_n, qst_c, qJ_0, qJ_st, qJ_go, qfl_I, qfl_Z, qfl_L, qfl_R, qrI_i, qrL_l, qrV_v, qRcv_0, qRcv_s, eq_self, true_and, and_true, true_or, or_true, false_and, and_false, false_or, or_false, ite_true, if_true, if_false, Bool.true_or, Bool.false_or, Bool.or_false, beq_self_eq_true, Bool.false_eq_true, bX1_listen_0, bX1_listen_2, bX1_listen_14, bX1_listen_48, bX1_listen_54, bX1_listen_67, kX1_listen_0, kX1_listen_2, kX1_listen_14, kX1_listen_48, kX1_listen_54, kX1_listen_67, zCb_k hr, zCb_6 hr, zCb_7 hr, zCb_8 hr, zCb_9 hr, zCb_10 hr, zCb_11 hr, zCb_12 hr, zCb_13 hr, zCb_14 hr, zCb_15 hr, zCb_16 hr, zCb_a1 hr, zCb_a2 hr, zCb_a3 hr, zCb_a4 hr, zCb_a5 hr, zCb_a6 hr, zCb_a7 hr, zCb_a8 hr, zCb_a9 hr, zCb_a10 hr, zCb_a11 hr]
        exact ih2 ho1
      refine ⟨fun e => st _ ?_, fun e => ?_⟩
      · rw [← qset_not (P := fun o => decide (o ≠ b) && decide (zfar C o b ≤ C 4 b)) (n := o)]
        simp [e]
      · refine qBI.fn (x_steps hr h1 hw hb1 ho1) (by decide) ?_
        rw [h1.ea hb1, es]
        simp (disch := omega) only [nI_leI, nI_ltI, nI_eq, nI_cl, qin_eq, nI_add, nI_mul, qb_z, qb_t, qb_f, nI_ne0', Nat.reduceAdd, Bool.false_eq_true, if_false, if_true, true_and, and_true, Nat.reduceEqDiff, not_true_eq_false, not_false_eq_true, false_implies, true_implies, ite_true, ite_false]
        refine ⟨fun g5 => st _ ?_, fun g5 => st _ ?_⟩
        · rw [← qset_not (P := fun o => decide (o ≠ b) && decide (zfar C o b ≤ C 4 b)) (n := o)]
          simp [show ¬ zfar C o b ≤ C 4 b by omega]
        · rw [← qset_add (P := fun o => decide (o ≠ b) && decide (zfar C o b ≤ C 4 b)) (n := o) (by omega)]
          simp [e, show zfar C o b ≤ C 4 b by omega]
