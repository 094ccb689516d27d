/-! the class: ends, minutes -/
theorem zu_comm {C : zC} {f i v g j w : Nat} (h : ¬ (f = g ∧ i = j)) : zu (zu C f i v) g j w = zu (zu C g j w) f i v := by
  funext a b
  unfold zu
  by_cases h1 : a = g ∧ b = j
  · by_cases h2 : a = f ∧ b = i
    · exact absurd ⟨h2.1.symm.trans h1.1, h2.2.symm.trans h1.2⟩ h
    · rw [if_pos h1, if_neg h2, if_pos h1]
  · by_cases h2 : a = f ∧ b = i
    · rw [if_neg h1, if_pos h2, if_pos h2]
    · rw [if_neg h1, if_neg h2, if_neg h2, if_neg h1]
theorem zend_2 {C : zC} {q : Nat} : zyl1 (zu C 9 q 2) (C 7 q) = zend C q 2 := by
  unfold zend
  dsimp only
  rw [if_pos (by decide), if_neg (by decide), zu_ne (by omega)]
theorem zend_1 {C : zC} {q : Nat} : zyl1 (zu C 9 q 1) (C 6 q) = zend C q 1 := by
  unfold zend
  dsimp only
  rw [if_neg (by decide), if_pos (by decide), zu_ne (by omega)]
theorem zend_3 {C : zC} {q : Nat} : zyl1 (zu (zyl1 (zu C 9 q 1) (C 6 q)) 9 q 3) (C 7 q) = zend C q 3 := by
  unfold zend
  dsimp only
  rw [if_pos (by decide), if_pos (by decide), zu_ne (by omega)]
  have e : zu (zyl1 (zu C 9 q 1) (C 6 q)) 9 q 3 = zyl1 (zu C 9 q 3) (C 6 q) := by
    unfold zyl1
    rw [zu_comm (by omega), zu_zu, zu_ne (by omega), zu_ne (by omega)]
  have e7 : zyl1 (zu C 9 q 3) (C 6 q) 7 q = C 7 q := by
    unfold zyl1
    rw [zu_ne (by omega), zu_ne (by omega)]
  rw [e, e7]
theorem zend_0 {C : zC} {q : Nat} (h : C 9 q = 0) : C = zend C q 0 := by
  unfold zend
  dsimp only
  rw [if_neg (by decide), if_neg (by decide)]
  have := zu_self (C := C) (f := 9) (i := q)
  rw [h] at this
  exact this.symm
set_option maxRecDepth 20000 in
theorem x_endBy {σ : qSg} {r : Nat} {C : zC} (hr : zCb r) (h : zX σ r C) (hw : zW C) {q : Nat} (hq : q < C 0 1) (h9 : C 9 q = 0) (o t : Bool) : qCI 2 29 [qr r, qi (nI q), qi (qb o), qi (qb t)] σ (fun v σ' => v = nI ((if o then 2 ^ C 6 q else 0) ||| (if t then 2 ^ C 7 q else 0)) ∧ zX σ' r (zend C q ((if o then 1 else 0) + (if t then 2 else 0))) ∧ zF (zXf r) σ σ') := by
  obtain ⟨wb, wq, ww1, ww2, wh1, wh2, wo, wm, wB, wQ⟩ := id hw
  have g := wQ q hq
  refine qCI.of [some (qr r), some (qi (nI q)), some (qi (qb o)), some (qi (qb t)), none] ok_29 (Nat.le_of_ble_eq_true rfl) rfl ?_
  have second : ∀ (σ1 : qSg) (C1 : zC) (s1 e1 : Nat), zX σ1 r C1 → zW C1 → C1 0 0 = C 0 0 → C1 0 1 = C 0 1 → C1 7 q = C 7 q → C1 9 q = e1 → zF (zXf r) σ σ1 → s1 = (if o then 2 ^ C 6 q else 0) → (t = false → C1 = zend C q ((if o then 1 else 0) + 0)) → (t = true → zyl1 (zu C1 9 q (e1 ||| 2)) (C 7 q) = zend C q ((if o then 1 else 0) + 2)) →
      qV 29 2 (.inl fun v σ' => v = nI ((if o then 2 ^ C 6 q else 0) ||| (if t then 2 ^ C 7 q else 0)) ∧ zX σ' r (zend C q ((if o then 1 else 0) + (if t then 2 else 0))) ∧ zF (zXf r) σ σ') 58 [some (qr r), some (qi (nI q)), some (qi (qb o)), some (qi (qb t)), some (qi (nI s1))] [] σ1 := by
    intro σ1 C1 s1 e1 h1 w1 c0 c1 c7 c9 f1 es hf ht
    cases t with
    | false =>
      have hf := hf rfl
      refine qV.go 30 [9999] ok_29 ?_
      simp only [qW_nop, qW_iconst, qW_iloadn, qW_iload, qW_aloadn, qW_istore, qW_iadd, qW_ior, qW_ishl, qW_dup2, qW_ifeq, qW_getf, qW_iald, qW_iast, qW_cv2_0, qW_iret0, Nat.reduceAdd, Nat.reduceMul, Nat.reduceBEq, Nat.reduceEqDiff, Nat.reduceLT, Nat.reduceLeDiff, Nat.zero_le, nI_add, nI_mul, nI_cl, qin_eq, qofI, qlg_0, qlg_s, qls_i0, qls_r0, qls_l0, qls_1, qls_2, qkl_i, qkl_r, qkl_l, qkl_n, qIsI_i, qIsL_l, qIsR_r, qint_i, qil_i, qil_r, qil_l, qf4_0, qf4_1, qf4_2, qf4_3, qf2_0, qf2_1, qcs_n, qcs_i, qcs_r, qcs_l, qst_n, qst_c, qJ_0, qJ_st, qJ_go, qfl_I, qfl_Z, qfl_L, qfl_R, qrI_i, qrL_l, qrV_v, qRcv_0, qRcv_s, eq_self, true_and, and_true, true_or, or_true, false_and, and_false, false_or, or_false, ite_true, if_true, if_false, Bool.true_or, Bool.false_or, Bool.or_false, beq_self_eq_true, Bool.false_eq_true, bX1_endBy_0, bX1_endBy_58, bX1_endBy_113, kX1_endBy_0, kX1_endBy_58, kX1_endBy_113, zCb_k hr, zCb_6 hr, zCb_7 hr, zCb_8 hr, zCb_9 hr, zCb_10 hr, zCb_11 hr, zCb_12 hr, zCb_13 hr, zCb_14 hr, zCb_15 hr, zCb_16 hr, zCb_a1 hr, zCb_a2 hr, zCb_a3 hr, zCb_a4 hr, zCb_a5 hr, zCb_a6 hr, zCb_a7 hr, zCb_a8 hr, zCb_a9 hr, zCb_a10 hr, zCb_a11 hr]
      simp (disch := omega) only [nI_leI, nI_ltI, nI_eq, nI_cl, qin_eq, nI_add, nI_mul, qb_z, qb_t, qb_f, nI_ne0', Nat.reduceAdd, Bool.false_eq_true, if_false, if_true, true_and, and_true, Nat.reduceEqDiff, not_true_eq_false, not_false_eq_true, false_implies, true_implies, ite_true, ite_false]
      refine ⟨?_, ?_, f1⟩
      · rw [es]
        exact congrArg nI (Nat.or_zero _).symm
      · have : zX σ1 r (zend C q ((if o then 1 else 0) + 0)) := hf ▸ h1
        exact this
    | true =>
      have ht := ht rfl
      refine qV.go 30 [113] ok_29 ?_
      simp only [qW_nop, qW_iconst, qW_iloadn, qW_iload, qW_aloadn, qW_istore, qW_iadd, qW_ior, qW_ishl, qW_dup2, qW_ifeq, qW_getf, qW_iald, qW_iast, qW_cv2_0, qW_iret0, Nat.reduceAdd, Nat.reduceMul, Nat.reduceBEq, Nat.reduceEqDiff, Nat.reduceLT, Nat.reduceLeDiff, Nat.zero_le, nI_add, nI_mul, nI_cl, qin_eq, qofI, qlg_0, qlg_s, qls_i0, qls_r0, qls_l0, qls_1, qls_2, qkl_i, qkl_r, qkl_l, qkl_n, qIsI_i, qIsL_l, qIsR_r, qint_i, qil_i, qil_r, qil_l, qf4_0, qf4_1, qf4_2, qf4_3, qf2_0, qf2_1, qcs_n, qcs_i, qcs_r, qcs_l, qst_n, qst_c, qJ_0, qJ_st, qJ_go, qfl_I, qfl_Z, qfl_L, qfl_R, qrI_i, qrL_l, qrV_v, qRcv_0, qRcv_s, eq_self, true_and, and_true, true_or, or_true, false_and, and_false, false_or, or_false, ite_true, if_true, if_false, Bool.true_or, Bool.false_or, Bool.or_false, beq_self_eq_true, Bool.false_eq_true, bX1_endBy_0, bX1_endBy_58, bX1_endBy_113, kX1_endBy_0, kX1_endBy_58, kX1_endBy_113, zCb_k hr, zCb_6 hr, zCb_7 hr, zCb_8 hr, zCb_9 hr, zCb_10 hr, zCb_11 hr, zCb_12 hr, zCb_13 hr, zCb_14 hr, zCb_15 hr, zCb_16 hr, zCb_a1 hr, zCb_a2 hr, zCb_a3 hr, zCb_a4 hr, zCb_a5 hr, zCb_a6 hr, zCb_a7 hr, zCb_a8 hr, zCb_a9 hr, zCb_a10 hr, zCb_a11 hr]
      simp (disch := omega) only [nI_leI, nI_ltI, nI_eq, nI_cl, qin_eq, nI_add, nI_mul, qb_z, qb_t, qb_f, nI_ne0', Nat.reduceAdd, Bool.false_eq_true, if_false, if_true, true_and, and_true, Nat.reduceEqDiff, not_true_eq_false, not_false_eq_true, false_implies, true_implies, ite_true, ite_false]
      rw [h1.1.se (by omega), c7]
      refine qBI.fn (x_hasBoy hr h1.1 w1 _) (by decide) ?_
      rw [zrg_k (by omega) (by omega)]
      simp (disch := omega) only [nI_leI, nI_ltI, nI_eq, nI_cl, qin_eq, nI_add, nI_mul, qb_z, qb_t, qb_f, nI_ne0', Nat.reduceAdd, Bool.false_eq_true, if_false, if_true, true_and, and_true, Nat.reduceEqDiff, not_true_eq_false, not_false_eq_true, false_implies, true_implies, ite_true, ite_false]
      have r1 : ∀ v, (qwi σ1 (r + 11) q v).1 (r + 9) q = nI (C 7 q) := fun v => by rw [qwi_1, if_neg (by omega), h1.1.se (by omega), c7]
      have r2 : ∀ v, (qwi σ1 (r + 11) q v).1 (r + 6) (C 7 q) = nI (C1 5 (C 7 q)) := fun v => by rw [qwi_1, if_neg (by omega), h1.1.yi (by omega)]
      have r3 : ∀ v w, (qwi (qwi σ1 (r + 11) q v) (r + 6) (C 7 q) w).1 (r + 9) q = nI (C 7 q) := fun v w => by rw [qwi_1, if_neg (by omega), r1]
      have cl := nI_cl (n := C 7 q) (by omega)
      simp only [r1, cl, r2, r3, h1.1.en (show q < C1 0 1 by omega), c9, nI_or, nI_add]
      have hx := (h1.uq (f := 3) (v := e1 ||| 2) (q := q) (by decide)).ub (f := 4) (b := C 7 q) (v := C1 5 (C 7 q) + 1) (by decide) (by decide) (by decide)
      have hz : zu (zu C1 9 q (e1 ||| 2)) 5 (C 7 q) (C1 5 (C 7 q) + 1) = zend C q ((if o then 1 else 0) + 2) := by
        rw [← ht]
        unfold zyl1
        rw [zu_ne (by omega)]
      have hx2 : zX (qwi (qwi σ1 (r + 11) q (nI (e1 ||| 2))) (r + 6) (C 7 q) (nI (C1 5 (C 7 q) + 1))) r (zend C q ((if o then 1 else 0) + 2)) := hz ▸ hx
      have f2 : zF (zXf r) σ (qwi (qwi σ1 (r + 11) q (nI (e1 ||| 2))) (r + 6) (C 7 q) (nI (C1 5 (C 7 q) + 1))) := (f1.tr (zF.wi ⟨by omega, by omega⟩)).tr (zF.wi ⟨by omega, by omega⟩)
      rw [qshl1 (by omega), nI_or]
      refine ⟨qin_n (by omega) (by decide), qin_n (by omega) (by decide), ?_⟩
      refine qV.go 30 [9999] ok_29 ?_
      simp only [qW_nop, qW_iconst, qW_iloadn, qW_iload, qW_aloadn, qW_istore, qW_iadd, qW_ior, qW_ishl, qW_dup2, qW_ifeq, qW_getf, qW_iald, qW_iast, qW_cv2_0, qW_iret0, Nat.reduceAdd, Nat.reduceMul, Nat.reduceBEq, Nat.reduceEqDiff, Nat.reduceLT, Nat.reduceLeDiff, Nat.zero_le, nI_add, nI_mul, nI_cl, qin_eq, qofI, qlg_0, qlg_s, qls_i0, qls_r0, qls_l0, qls_1, qls_2, qkl_i, qkl_r, qkl_l, qkl_n, qIsI_i, qIsL_l, qIsR_r, qint_i, qil_i, qil_r, qil_l, qf4_0, qf4_1, qf4_2, qf4_3, qf2_0, qf2_1, qcs_n, qcs_i, qcs_r, qcs_l, qst_n, qst_c, qJ_0, qJ_st, qJ_go, qfl_I, qfl_Z, qfl_L, qfl_R, qrI_i, qrL_l, qrV_v, qRcv_0, qRcv_s, eq_self, true_and, and_true, true_or, or_true, false_and, and_false, false_or, or_false, ite_true, if_true, if_false, Bool.true_or, Bool.false_or, Bool.or_false, beq_self_eq_true, Bool.false_eq_true, bX1_endBy_0, bX1_endBy_58, bX1_endBy_113, kX1_endBy_0, kX1_endBy_58, kX1_endBy_113, zCb_k hr, zCb_6 hr, zCb_7 hr, zCb_8 hr, zCb_9 hr, zCb_10 hr, zCb_11 hr, zCb_12 hr, zCb_13 hr, zCb_14 hr, zCb_15 hr, zCb_16 hr, zCb_a1 hr, zCb_a2 hr, zCb_a3 hr, zCb_a4 hr, zCb_a5 hr, zCb_a6 hr, zCb_a7 hr, zCb_a8 hr, zCb_a9 hr, zCb_a10 hr, zCb_a11 hr]
      refine ⟨?_, hx2, f2⟩
      rw [es]
  cases o with
  | false =>
    refine qV.go 30 [58] ok_29 ?_
    simp only [qW_nop, qW_iconst, qW_iloadn, qW_iload, qW_aloadn, qW_istore, qW_iadd, qW_ior, qW_ishl, qW_dup2, qW_ifeq, qW_getf, qW_iald, qW_iast, qW_cv2_0, qW_iret0, Nat.reduceAdd, Nat.reduceMul, Nat.reduceBEq, Nat.reduceEqDiff, Nat.reduceLT, Nat.reduceLeDiff, Nat.zero_le, nI_add, nI_mul, nI_cl, qin_eq, qofI, qlg_0, qlg_s, qls_i0, qls_r0, qls_l0, qls_1, qls_2, qkl_i, qkl_r, qkl_l, qkl_n, qIsI_i, qIsL_l, qIsR_r, qint_i, qil_i, qil_r, qil_l, qf4_0, qf4_1, qf4_2, qf4_3, qf2_0, qf2_1, qcs_n, qcs_i, qcs_r, qcs_l, qst_n, qst_c, qJ_0, qJ_st, qJ_go, qfl_I, qfl_Z, qfl_L, qfl_R, qrI_i, qrL_l, qrV_v, qRcv_0, qRcv_s, eq_self, true_and, and_true, true_or, or_true, false_and, and_false, false_or, or_false, ite_true, if_true, if_false, Bool.true_or, Bool.false_or, Bool.or_false, beq_self_eq_true, Bool.false_eq_true, bX1_endBy_0, bX1_endBy_58, bX1_endBy_113, kX1_endBy_0, kX1_endBy_58, kX1_endBy_113, zCb_k hr, zCb_6 hr, zCb_7 hr, zCb_8 hr, zCb_9 hr, zCb_10 hr, zCb_11 hr, zCb_12 hr, zCb_13 hr, zCb_14 hr, zCb_15 hr, zCb_16 hr, zCb_a1 hr, zCb_a2 hr, zCb_a3 hr, zCb_a4 hr, zCb_a5 hr, zCb_a6 hr, zCb_a7 hr, zCb_a8 hr, zCb_a9 hr, zCb_a10 hr, zCb_a11 hr]
    simp (disch := omega) only [nI_leI, nI_ltI, nI_eq, nI_cl, qin_eq, nI_add, nI_mul, qb_z, qb_t, qb_f, nI_ne0', Nat.reduceAdd, Bool.false_eq_true, if_false, if_true, true_and, and_true, Nat.reduceEqDiff, not_true_eq_false, not_false_eq_true, false_implies, true_implies, ite_true, ite_false]
    have := second σ C 0 0 h hw rfl rfl rfl h9 zF.rf rfl (fun _ => zend_0 h9) (fun _ => zend_2)
    exact this
  | true =>
    refine qV.go 30 [58] ok_29 ?_
    simp only [qW_nop, qW_iconst, qW_iloadn, qW_iload, qW_aloadn, qW_istore, qW_iadd, qW_ior, qW_ishl, qW_dup2, qW_ifeq, qW_getf, qW_iald, qW_iast, qW_cv2_0, qW_iret0, Nat.reduceAdd, Nat.reduceMul, Nat.reduceBEq, Nat.reduceEqDiff, Nat.reduceLT, Nat.reduceLeDiff, Nat.zero_le, nI_add, nI_mul, nI_cl, qin_eq, qofI, qlg_0, qlg_s, qls_i0, qls_r0, qls_l0, qls_1, qls_2, qkl_i, qkl_r, qkl_l, qkl_n, qIsI_i, qIsL_l, qIsR_r, qint_i, qil_i, qil_r, qil_l, qf4_0, qf4_1, qf4_2, qf4_3, qf2_0, qf2_1, qcs_n, qcs_i, qcs_r, qcs_l, qst_n, qst_c, qJ_0, qJ_st, qJ_go, qfl_I, qfl_Z, qfl_L, qfl_R, qrI_i, qrL_l, qrV_v, qRcv_0, qRcv_s, eq_self, true_and, and_true, true_or, or_true, false_and, and_false, false_or, or_false, ite_true, if_true, if_false, Bool.true_or, Bool.false_or, Bool.or_false, beq_self_eq_true, Bool.false_eq_true, bX1_endBy_0, bX1_endBy_58, bX1_endBy_113, kX1_endBy_0, kX1_endBy_58, kX1_endBy_113, zCb_k hr, zCb_6 hr, zCb_7 hr, zCb_8 hr, zCb_9 hr, zCb_10 hr, zCb_11 hr, zCb_12 hr, zCb_13 hr, zCb_14 hr, zCb_15 hr, zCb_16 hr, zCb_a1 hr, zCb_a2 hr, zCb_a3 hr, zCb_a4 hr, zCb_a5 hr, zCb_a6 hr, zCb_a7 hr, zCb_a8 hr, zCb_a9 hr, zCb_a10 hr, zCb_a11 hr]
    simp (disch := omega) only [nI_leI, nI_ltI, nI_eq, nI_cl, qin_eq, nI_add, nI_mul, qb_z, qb_t, qb_f, nI_ne0', Nat.reduceAdd, Bool.false_eq_true, if_false, if_true, true_and, and_true, Nat.reduceEqDiff, not_true_eq_false, not_false_eq_true, false_implies, true_implies, ite_true, ite_false]
    rw [h.1.fi hq]
    refine qBI.fn (x_hasBoy hr h.1 hw _) (by decide) ?_
    rw [zrg_k (by omega) (by omega)]
    simp (disch := omega) only [nI_leI, nI_ltI, nI_eq, nI_cl, qin_eq, nI_add, nI_mul, qb_z, qb_t, qb_f, nI_ne0', Nat.reduceAdd, Bool.false_eq_true, if_false, if_true, true_and, and_true, Nat.reduceEqDiff, not_true_eq_false, not_false_eq_true, false_implies, true_implies, ite_true, ite_false]
    have r1 : ∀ v, (qwi σ (r + 11) q v).1 (r + 8) q = nI (C 6 q) := fun v => by rw [qwi_1, if_neg (by omega), h.1.fi hq]
    have r2 : ∀ v, (qwi σ (r + 11) q v).1 (r + 6) (C 6 q) = nI (C 5 (C 6 q)) := fun v => by rw [qwi_1, if_neg (by omega), h.1.yi (by omega)]
    have r3 : ∀ v w, (qwi (qwi σ (r + 11) q v) (r + 6) (C 6 q) w).1 (r + 8) q = nI (C 6 q) := fun v w => by rw [qwi_1, if_neg (by omega), r1]
    have cl := nI_cl (n := C 6 q) (by omega)
    simp only [r1, cl, r2, r3, h.1.en hq, h9, nI_or, nI_add]
    have hx := (h.uq (f := 3) (v := 1) (q := q) (by decide)).ub (f := 4) (b := C 6 q) (v := C 5 (C 6 q) + 1) (by decide) (by decide) (by decide)
    have hz : zu (zu C 9 q 1) 5 (C 6 q) (C 5 (C 6 q) + 1) = zyl1 (zu C 9 q 1) (C 6 q) := by
      unfold zyl1
      rw [zu_ne (by omega)]
    have hx2 : zX (qwi (qwi σ (r + 11) q (nI 1)) (r + 6) (C 6 q) (nI (C 5 (C 6 q) + 1))) r (zyl1 (zu C 9 q 1) (C 6 q)) := hz ▸ hx
    have f2 : zF (zXf r) σ (qwi (qwi σ (r + 11) q (nI 1)) (r + 6) (C 6 q) (nI (C 5 (C 6 q) + 1))) := (zF.wi ⟨by omega, by omega⟩).tr (zF.wi ⟨by omega, by omega⟩)
    rw [qshl1 (by omega)]
    have := second _ _ (2 ^ C 6 q) 1 hx2 (zend_1 ▸ zW_end hw (by decide)) (by unfold zyl1; rw [zu_ne (by omega), zu_ne (by omega)]) (by unfold zyl1; rw [zu_ne (by omega), zu_ne (by omega)]) (by unfold zyl1; rw [zu_ne (by omega), zu_ne (by omega)]) (by unfold zyl1; rw [zu_ne (by omega), zu_eq]) f2 rfl (fun _ => zend_1) (fun _ => zend_3)
    refine ⟨qin_n (by omega) (by decide), qin_n (by omega) (by decide), ?_⟩
    rw [nI_or, Nat.zero_or]
    exact this
-- a minute
theorem zX.fr {σ σ' : qSg} {r : Nat} {C : zC} (h : zX σ r C) (e : ∀ a j, r ≤ a → a ≤ r + 11 → σ'.1 a j = σ.1 a j) : zX σ' r C := by
  obtain ⟨⟨h1, h2, h3⟩, h4⟩ := h
  refine ⟨⟨?_, fun b hb f hf => ?_, fun q hq f hf => ?_⟩, fun b hb => ?_⟩
  · simp only [e r _ (Nat.le_refl _) (by omega)]; exact h1
  · rw [e _ _ (by omega) (by omega)]; exact h2 b hb f hf
  · rw [e _ _ (by omega) (by omega)]; exact h3 q hq f hf
  · rw [e _ _ (by omega) (by omega)]; exact h4 b hb
theorem zyy_o {C : zC} {up q y : Nat} (h : zwho C up q ≠ 0) : zyy C q (zwho C up q) y = y ||| ((if decide (zdue C (C 6 q) q up ≤ C 0 5) = true then 2 ^ C 6 q else 0) ||| (if decide (zdue C (C 7 q) q up ≤ C 0 5) = true then 2 ^ C 7 q else 0)) := by
  unfold zwho at h ⊢
  unfold zyy
  dsimp only
  by_cases h1 : zdue C (C 6 q) q up ≤ C 0 5 <;> by_cases h2 : zdue C (C 7 q) q up ≤ C 0 5
  · simp only [if_pos h1, if_pos h2, decide_eq_true h1, decide_eq_true h2, if_true]
    simp [Nat.or_assoc]
  · simp only [if_pos h1, if_neg h2, decide_eq_true h1, decide_eq_false h2, if_true]
    simp
  · simp only [if_neg h1, if_pos h2, decide_eq_false h1, decide_eq_true h2, if_true]
    simp
  · exact absurd (by rw [if_neg h1, if_neg h2]) h
set_option maxRecDepth 20000 in
theorem x_minute {σ : qSg} {r : Nat} {C : zC} (hr : zCb r) (h : zX σ r C) (hw : zW C) (hm : C 0 5 < 100000) : qCI 3 28 [qr r] σ (fun v σ' => v = nI (zmin C).2.2 ∧ zX σ' r (zmin C).1 ∧ zF (zXf r) σ σ') := by
  obtain ⟨wb, wq, ww1, ww2, wh1, wh2, wo, wm, wB, wQ⟩ := id hw
  have hup := zups_lt hw
  refine qCI.of [some (qr r), none, none, none, none, none] ok_28 (Nat.le_of_ble_eq_true rfl) rfl ?_
  refine qV.go 30 [9] ok_28 ?_
  simp only [qW_nop, qW_iconst, qW_iloadn, qW_iload, qW_aloadn, qW_istoren, qW_istore, qW_iinc, qW_iadd, qW_ior, qW_dup, qW_ifne, qW_icge, qW_icgt, qW_goto, qW_getf, qW_iald, qW_cv1_0, qW_cv4_0, qW_iret0, qW_putf0, Nat.reduceAdd, Nat.reduceMul, Nat.reduceBEq, Nat.reduceEqDiff, Nat.reduceLT, Nat.reduceLeDiff, Nat.zero_le, nI_add, nI_mul, nI_cl, qin_eq, qofI, qlg_0, qlg_s, qls_i0, qls_r0, qls_l0, qls_1, qls_2, qkl_i, qkl_r, qkl_l, qkl_n, qIsI_i, qIsL_l, qIsR_r, qint_i, qil_i, qil_r, qil_l, qf4_0, qf4_1, qf4_2, qf4_3, qf2_0, qf2_1, qcs_n, qcs_i, qcs_r, qcs_l, qst_n, qst_c, qJ_0, qJ_st, qJ_go, qfl_I, qfl_Z, qfl_L, qfl_R, qrI_i, qrL_l, qrV_v, qRcv_0, qRcv_s, eq_self, true_and, and_true, true_or, or_true, false_and, and_false, false_or, or_false, ite_true, if_true, if_false, Bool.true_or, Bool.false_or, Bool.or_false, beq_self_eq_true, Bool.false_eq_true, bX1_minuteOfYielding_0, bX1_minuteOfYielding_9, bX1_minuteOfYielding_49, bX1_minuteOfYielding_50, bX1_minuteOfYielding_75, bX1_minuteOfYielding_76, bX1_minuteOfYielding_90, bX1_minuteOfYielding_96, kX1_minuteOfYielding_0, kX1_minuteOfYielding_9, kX1_minuteOfYielding_49, kX1_minuteOfYielding_50, kX1_minuteOfYielding_75, kX1_minuteOfYielding_76, kX1_minuteOfYielding_90, kX1_minuteOfYielding_96, zCb_k hr, zCb_6 hr, zCb_7 hr, zCb_8 hr, zCb_9 hr, zCb_10 hr, zCb_11 hr, zCb_12 hr, zCb_13 hr, zCb_14 hr, zCb_15 hr, zCb_16 hr, zCb_a1 hr, zCb_a2 hr, zCb_a3 hr, zCb_a4 hr, zCb_a5 hr, zCb_a6 hr, zCb_a7 hr, zCb_a8 hr, zCb_a9 hr, zCb_a10 hr, zCb_a11 hr]
  refine qBI.fn (x_upSet hr h.1 hw) (by decide) ?_
  refine qdown (n := C 0 1) (P := fun q => ∀ (σ1 : qSg) (l4 l5 : Option qPV), zX σ1 r (zmf (zups C) C q).1 → zF (zXf r) σ σ1 → qV 28 3 (.inl fun v σ' => v = nI (zmin C).2.2 ∧ zX σ' r (zmin C).1 ∧ zF (zXf r) σ σ') 9 [some (qr r), some (qi (nI (zups C))), some (qi (nI (zmf (zups C) C q).2.2)), some (qi (nI q)), l4, l5] [] σ1) (fun q hq ih => ?_) 0 (Nat.zero_le _) σ none none h zF.rf
  intro σ1 l4 l5 a1 f1
  have e0 := zmf_q C (zups C) 0 0 (by decide) (by decide) q
  have e1 := zmf_q C (zups C) 0 1 (by decide) (by decide) q
  have e5 := zmf_q C (zups C) 0 5 (by decide) (by decide) q
  have e6 := zmf_q C (zups C) 6 q (by decide) (by decide) q
  have e7 := zmf_q C (zups C) 7 q (by decide) (by decide) q
  have w1 := zmf_W hw (zups C) q
  have hs := zmf_s (zups C) C q
  have hfin : q = C 0 1 → (zmin C).1 = zu (zmf (zups C) C q).1 0 5 (C 0 5 + 1) ∧ (zmin C).2.2 = (zmf (zups C) C q).2.2 := fun e => by rw [e]; exact ⟨rfl, rfl⟩
  generalize zmf (zups C) C q = S at a1 e0 e1 e5 e6 e7 w1 hs hfin ⊢
  refine qV.go 30 [9, 90] ok_28 ?_
  simp only [qW_nop, qW_iconst, qW_iloadn, qW_iload, qW_aloadn, qW_istoren, qW_istore, qW_iinc, qW_iadd, qW_ior, qW_dup, qW_ifne, qW_icge, qW_icgt, qW_goto, qW_getf, qW_iald, qW_cv1_0, qW_cv4_0, qW_iret0, qW_putf0, Nat.reduceAdd, Nat.reduceMul, Nat.reduceBEq, Nat.reduceEqDiff, Nat.reduceLT, Nat.reduceLeDiff, Nat.zero_le, nI_add, nI_mul, nI_cl, qin_eq, qofI, qlg_0, qlg_s, qls_i0, qls_r0, qls_l0, qls_1, qls_2, qkl_i, qkl_r, qkl_l, qkl_n, qIsI_i, qIsL_l, qIsR_r, qint_i, qil_i, qil_r, qil_l, qf4_0, qf4_1, qf4_2, qf4_3, qf2_0, qf2_1, qcs_n, qcs_i, qcs_r, qcs_l, qst_n, qst_c, qJ_0, qJ_st, qJ_go, qfl_I, qfl_Z, qfl_L, qfl_R, qrI_i, qrL_l, qrV_v, qRcv_0, qRcv_s, eq_self, true_and, and_true, true_or, or_true, false_and, and_false, false_or, or_false, ite_true, if_true, if_false, Bool.true_or, Bool.false_or, Bool.or_false, beq_self_eq_true, Bool.false_eq_true, bX1_minuteOfYielding_0, bX1_minuteOfYielding_9, bX1_minuteOfYielding_49, bX1_minuteOfYielding_50, bX1_minuteOfYielding_75, bX1_minuteOfYielding_76, bX1_minuteOfYielding_90, bX1_minuteOfYielding_96, kX1_minuteOfYielding_0, kX1_minuteOfYielding_9, kX1_minuteOfYielding_49, kX1_minuteOfYielding_50, kX1_minuteOfYielding_75, kX1_minuteOfYielding_76, kX1_minuteOfYielding_90, kX1_minuteOfYielding_96, zCb_k hr, zCb_6 hr, zCb_7 hr, zCb_8 hr, zCb_9 hr, zCb_10 hr, zCb_11 hr, zCb_12 hr, zCb_13 hr, zCb_14 hr, zCb_15 hr, zCb_16 hr, zCb_a1 hr, zCb_a2 hr, zCb_a3 hr, zCb_a4 hr, zCb_a5 hr, zCb_a6 hr, zCb_a7 hr, zCb_a8 hr, zCb_a9 hr, zCb_a10 hr, zCb_a11 hr]
  rw [a1.1.q, e1]
  simp (disch := omega) only [nI_leI, nI_ltI, nI_eq, nI_cl, qin_eq, nI_add, nI_mul, qb_z, qb_t, qb_f, nI_ne0', Nat.reduceAdd, Bool.false_eq_true, if_false, if_true, true_and, and_true, Nat.reduceEqDiff, not_true_eq_false, not_false_eq_true, false_implies, true_implies, ite_true, ite_false]
  refine ⟨fun g => ?_, fun g => ?_⟩
  · have e : q = C 0 1 := by omega
    obtain ⟨k1, k2⟩ := hfin e
    rw [k1, k2, a1.1.m, e5]
    simp only [nI_add]
    exact ⟨trivial, a1.um, f1.tr (zF.wi ⟨by omega, by omega⟩)⟩
  · have hq1 : q < C 0 1 := by omega
    have hq2 : q < S.1 0 1 := by omega
    have g9 := w1.2.2.2.2.2.2.2.2.2 q hq2
    have wb1 := w1.1
    have st : ∀ σ2 (v : Int32) (l4 l5 : Option qPV), zX σ2 r (zmf (zups C) C (q + 1)).1 → zF (zXf r) σ σ2 → v = nI (zmf (zups C) C (q + 1)).2.2 → qV 28 3 (.inl fun v σ' => v = nI (zmin C).2.2 ∧ zX σ' r (zmin C).1 ∧ zF (zXf r) σ σ') 90 [some (qr r), some (qi (nI (zups C))), some (qi v), some (qi (nI q)), l4, l5] [] σ2 := by
      intro σ2 v l4 l5 b1 b2 hv
      subst hv
      refine qV.go 30 [9] ok_28 ?_
      simp only [qW_nop, qW_iconst, qW_iloadn, qW_iload, qW_aloadn, qW_istoren, qW_istore, qW_iinc, qW_iadd, qW_ior, qW_dup, qW_ifne, qW_icge, qW_icgt, qW_goto, qW_getf, qW_iald, qW_cv1_0, qW_cv4_0, qW_iret0, qW_putf0, Nat.reduceAdd, Nat.reduceMul, Nat.reduceBEq, Nat.reduceEqDiff, Nat.reduceLT, Nat.reduceLeDiff, Nat.zero_le, nI_add, nI_mul, nI_cl, qin_eq, qofI, qlg_0, qlg_s, qls_i0, qls_r0, qls_l0, qls_1, qls_2, qkl_i, qkl_r, qkl_l, qkl_n, qIsI_i, qIsL_l, qIsR_r, qint_i, qil_i, qil_r, qil_l, qf4_0, qf4_1, qf4_2, qf4_3, qf2_0, qf2_1, qcs_n, qcs_i, qcs_r, qcs_l, qst_n, qst_c, qJ_0, qJ_st, qJ_go, qfl_I, qfl_Z, qfl_L, qfl_R, qrI_i, qrL_l, qrV_v, qRcv_0, qRcv_s, eq_self, true_and, and_true, true_or, or_true, false_and, and_false, false_or, or_false, ite_true, if_true, if_false, Bool.true_or, Bool.false_or, Bool.or_false, beq_self_eq_true, Bool.false_eq_true, bX1_minuteOfYielding_0, bX1_minuteOfYielding_9, bX1_minuteOfYielding_49, bX1_minuteOfYielding_50, bX1_minuteOfYielding_75, bX1_minuteOfYielding_76, bX1_minuteOfYielding_90, bX1_minuteOfYielding_96, kX1_minuteOfYielding_0, kX1_minuteOfYielding_9, kX1_minuteOfYielding_49, kX1_minuteOfYielding_50, kX1_minuteOfYielding_75, kX1_minuteOfYielding_76, kX1_minuteOfYielding_90, kX1_minuteOfYielding_96, zCb_k hr, zCb_6 hr, zCb_7 hr, zCb_8 hr, zCb_9 hr, zCb_10 hr, zCb_11 hr, zCb_12 hr, zCb_13 hr, zCb_14 hr, zCb_15 hr, zCb_16 hr, zCb_a1 hr, zCb_a2 hr, zCb_a3 hr, zCb_a4 hr, zCb_a5 hr, zCb_a6 hr, zCb_a7 hr, zCb_a8 hr, zCb_a9 hr, zCb_a10 hr, zCb_a11 hr]
      exact ih hq1 σ2 l4 l5 b1 b2
    rw [a1.1.en hq2, a1.1.fi hq2]
    rw [hs] at st
    have leaf : S.1 9 q = 0 → ∀ o t : Bool, o = decide (zdue S.1 (S.1 6 q) q (zups C) ≤ S.1 0 5) → t = decide (zdue S.1 (S.1 7 q) q (zups C) ≤ S.1 0 5) → qBI 3 29 [qr r, qi (nI q), qi (qb o), qi (qb t)] σ1 (fun v σ2 => qV 28 3 (.inl fun v σ' => v = nI (zmin C).2.2 ∧ zX σ' r (zmin C).1 ∧ zF (zXf r) σ σ') 90 [some (qr r), some (qi (nI (zups C))), some (qi (nI S.2.2 ||| v)), some (qi (nI q)), some (qi (qb o)), some (qi (qb t))] [] σ2) := by
      intro h9 o t ho ht
      refine qBI.of (x_endBy hr a1 w1 hq2 h9 o t) (by decide) (fun v σ2 g2 => ?_)
      obtain ⟨rfl, b1, b2⟩ := g2
      have hz : (if o then 1 else 0) + (if t then 2 else 0) = zwho S.1 (zups C) q := by
        rw [ho, ht]
        unfold zwho
        simp
      rw [hz] at b1
      by_cases hw0 : zwho S.1 (zups C) q = 0
      · refine st σ2 _ _ _ ?_ (f1.tr b2) ?_
        · rw [if_neg (fun hh => hh.2 hw0)]
          rw [hw0] at b1
          rw [zend_0 h9]
          exact b1
        · have hn : ¬ (zOpen S.1 q = true ∧ zwho S.1 (zups C) q ≠ 0) := fun hh => hh.2 hw0
          rw [if_neg hn, nI_or]
          have e0 : ((if o = true then 2 ^ S.1 6 q else 0) ||| (if t = true then 2 ^ S.1 7 q else 0)) = 0 := by
            cases o <;> cases t <;> simp_all
          rw [e0, Nat.or_zero]
      · have hc : zOpen S.1 q = true ∧ zwho S.1 (zups C) q ≠ 0 := ⟨decide_eq_true h9, hw0⟩
        refine st σ2 _ _ _ ?_ (f1.tr b2) ?_
        · rw [if_pos hc]
          exact b1
        · rw [if_pos hc, nI_or, ho, ht]
          dsimp only
          rw [zyy_o hw0]
    have d6 := zdue_bd w1 (up := zups C) (show S.1 6 q < S.1 0 0 by omega) hq2
    have d7 := zdue_bd w1 (up := zups C) (show S.1 7 q < S.1 0 0 by omega) hq2
    have wm1 := w1.2.2.2.2.2.2.2.1
    have cmp : ∀ z : Int, -72 ≤ z → z ≤ 129 → (nI (S.1 0 5) < iI z) = ¬ (z ≤ S.1 0 5) := fun z z1 z2 => by
      rw [qlt, nI_t (by omega), iI_toInt (by omega) (by omega)]
      exact propext (by omega)
    simp (disch := omega) only [nI_leI, nI_ltI, nI_eq, nI_cl, qin_eq, nI_add, nI_mul, qb_z, qb_t, qb_f, nI_ne0', Nat.reduceAdd, Bool.false_eq_true, if_false, if_true, true_and, and_true, Nat.reduceEqDiff, not_true_eq_false, not_false_eq_true, false_implies, true_implies, ite_true, ite_false]
    refine ⟨fun h9 => ?_, fun h9 => ?_⟩
    · have hc : ¬ (zOpen S.1 q = true ∧ zwho S.1 (zups C) q ≠ 0) := fun hh => h9 (of_decide_eq_true hh.1)
      rw [if_neg hc] at st
      exact st σ1 _ _ _ a1 f1 rfl
    · have leaf := leaf h9
      refine qBI.fn (x_due hr a1 w1 (by omega) hq2 (by omega)) (by decide) ?_
      rw [a1.1.m, cmp _ d6.1 d6.2, a1.1.se hq2]
      refine ⟨fun hA => ?_, fun hA => ?_⟩
      · refine qBI.fn (x_due hr a1 w1 (by omega) hq2 (by omega)) (by decide) ?_
        rw [a1.1.m, cmp _ d7.1 d7.2]
        refine ⟨fun hB => ?_, fun hB => ?_⟩
        · exact leaf false false (decide_eq_false hA).symm (decide_eq_false hB).symm
        · exact leaf false true (decide_eq_false hA).symm (decide_eq_true (Classical.not_not.mp hB)).symm
      · refine qBI.fn (x_due hr a1 w1 (by omega) hq2 (by omega)) (by decide) ?_
        rw [a1.1.m, cmp _ d7.1 d7.2]
        refine ⟨fun hB => ?_, fun hB => ?_⟩
        · exact leaf true false (decide_eq_true (Classical.not_not.mp hA)).symm (decide_eq_false hB).symm
        · exact leaf true true (decide_eq_true (Classical.not_not.mp hA)).symm (decide_eq_true (Classical.not_not.mp hB)).symm
