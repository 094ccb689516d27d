/-! the class: one token more; what must stand -/
set_option maxRecDepth 20000 in
theorem x_step0 {σ : qSg} {B : Nat → Nat} {n p : Nat} (hB : zBW B n) (h : zXr σ B n) (hp : p ≤ n) (h3 : σ.1 50 3 = nI p) : qCV 3 93 [qr 50] σ (fun σ' => zXt σ' B n p ∧ zG zPxs zRxt σ σ') := by
  have h900 := hB.1
  have hs := tkS_spec hB hp
  refine qCV.of [some (qr 50), none] ok_93 (Nat.le_of_ble_eq_true rfl) rfl ?_
  refine qdown (n := tkS B p) (P := fun q => p ≤ q → ∀ σ1, zG zPxs zRxt σ σ1 → σ1.1 50 3 = nI q → qV 93 3 (.inr (.inr fun σ' => zXt σ' B n p ∧ zG zPxs zRxt σ σ')) 0 [some (qr 50), none] [] σ1) (fun q hq ih => ?_) p hs.1 (Nat.le_refl _) σ zG.rf h3
  intro hpq σ1 f1 e1
  have r1 := h.s f1
  have c256 := zc0_lt hB q
  have ebl : zbl (B q) = (decide (zc0 (B q) = 32) || decide (zc0 (B q) = 10)) := by rw [← zc0_bl]; rfl
  have eq9 : n ≤ q → zbl (B q) = false := fun hh => by rw [hB.2.2 q hh]; rfl
  refine qV.go 30 [0, 37, 50] ok_93 ?_
  simp only [qW_nop, qW_iconst, qW_iconstm, qW_bipush, qW_iloadn, qW_aloadn, qW_istoren, qW_iadd, qW_dup, qW_ifeq, qW_iceq, qW_icne, qW_iclt, qW_icge, qW_goto, qW_getf, qW_vret, qW_cs1_0, qW_cv1_2, qW_cv2_0, qW_putf0, Nat.reduceAdd, Nat.reduceMul, Nat.reduceBEq, Nat.reduceEqDiff, Nat.reduceLT, Nat.reduceLeDiff, Nat.zero_le, nI_add, nI_mul, nI_cl, qin_eq, qofI, qlg_0, qlg_s, qls_i0, qls_r0, qls_l0, qls_1, qls_2, qkl_i, qkl_r, qkl_l, qkl_n, qIsI_i, qIsL_l, qIsR_r, qint_i, qil_i, qil_r, qil_l, qf4_0, qf4_1, qf4_2, qf4_3, qf2_0, qf2_1, qcs_n, qcs_i, qcs_r, qcs_l, qst_n, qst_c, qJ_0, qJ_st, qJ_go, qfl_I, qfl_Z, qfl_L, qfl_R, qrI_i, qrL_l, qrV_v, qRcv_0, qRcv_s, eq_self, true_and, and_true, true_or, or_true, false_and, and_false, false_or, or_false, ite_true, if_true, if_false, Bool.true_or, Bool.false_or, Bool.or_false, beq_self_eq_true, Bool.false_eq_true, bX7_step_0, bX7_step_37, bX7_step_50, bX7_step_91, bX7_step_105, bX7_step_119, bX7_step_144, bX7_step_148, bX7_step_149, bX7_step_167, kX7_step_0, kX7_step_37, kX7_step_50, kX7_step_91, kX7_step_105, kX7_step_119, kX7_step_144, kX7_step_148, kX7_step_149, kX7_step_167, qK_50, qR_50_0, qK_51, qR_50_13, qK_52]
  rw [e1, r1.1]
  have more : zbl (B q) = true → qV 93 3 (.inr (.inr fun σ' => zXt σ' B n p ∧ zG zPxs zRxt σ σ')) 37 [some (qr 50), none] [] σ1 := by
    intro hb
    have hqs : q < tkS B p := by
      rcases Nat.lt_or_ge q (tkS B p) with e | e
      · exact e
      · have e2 : q = tkS B p := by omega
        have := hs.2.2.1
        rw [← e2, hb] at this
        cases this
    refine qV.go 30 [0] ok_93 ?_
    simp only [qW_nop, qW_iconst, qW_iconstm, qW_bipush, qW_iloadn, qW_aloadn, qW_istoren, qW_iadd, qW_dup, qW_ifeq, qW_iceq, qW_icne, qW_iclt, qW_icge, qW_goto, qW_getf, qW_vret, qW_cs1_0, qW_cv1_2, qW_cv2_0, qW_putf0, Nat.reduceAdd, Nat.reduceMul, Nat.reduceBEq, Nat.reduceEqDiff, Nat.reduceLT, Nat.reduceLeDiff, Nat.zero_le, nI_add, nI_mul, nI_cl, qin_eq, qofI, qlg_0, qlg_s, qls_i0, qls_r0, qls_l0, qls_1, qls_2, qkl_i, qkl_r, qkl_l, qkl_n, qIsI_i, qIsL_l, qIsR_r, qint_i, qil_i, qil_r, qil_l, qf4_0, qf4_1, qf4_2, qf4_3, qf2_0, qf2_1, qcs_n, qcs_i, qcs_r, qcs_l, qst_n, qst_c, qJ_0, qJ_st, qJ_go, qfl_I, qfl_Z, qfl_L, qfl_R, qrI_i, qrL_l, qrV_v, qRcv_0, qRcv_s, eq_self, true_and, and_true, true_or, or_true, false_and, and_false, false_or, or_false, ite_true, if_true, if_false, Bool.true_or, Bool.false_or, Bool.or_false, beq_self_eq_true, Bool.false_eq_true, bX7_step_0, bX7_step_37, bX7_step_50, bX7_step_91, bX7_step_105, bX7_step_119, bX7_step_144, bX7_step_148, bX7_step_149, bX7_step_167, kX7_step_0, kX7_step_37, kX7_step_50, kX7_step_91, kX7_step_105, kX7_step_119, kX7_step_144, kX7_step_148, kX7_step_149, kX7_step_167, qK_50, qR_50_0, qK_51, qR_50_13, qK_52]
    rw [e1, nI_add]
    exact ih hqs (by omega) _ (f1.tr (zG.wi ⟨rfl, by decide, by decide⟩)) (by rw [qwi_1, if_pos ⟨rfl, rfl⟩])
  have on : zbl (B q) = false → qV 93 3 (.inr (.inr fun σ' => zXt σ' B n p ∧ zG zPxs zRxt σ σ')) 50 [some (qr 50), none] [] σ1 := by
    intro hb
    have eqs : q = tkS B p := by
      rcases Nat.lt_or_ge q (tkS B p) with e | e
      · have := hs.2.2.2 q hpq e
        rw [hb] at this
        cases this
      · omega
    refine qV.go 30 [0, 91, 167] ok_93 ?_
    simp only [qW_nop, qW_iconst, qW_iconstm, qW_bipush, qW_iloadn, qW_aloadn, qW_istoren, qW_iadd, qW_dup, qW_ifeq, qW_iceq, qW_icne, qW_iclt, qW_icge, qW_goto, qW_getf, qW_vret, qW_cs1_0, qW_cv1_2, qW_cv2_0, qW_putf0, Nat.reduceAdd, Nat.reduceMul, Nat.reduceBEq, Nat.reduceEqDiff, Nat.reduceLT, Nat.reduceLeDiff, Nat.zero_le, nI_add, nI_mul, nI_cl, qin_eq, qofI, qlg_0, qlg_s, qls_i0, qls_r0, qls_l0, qls_1, qls_2, qkl_i, qkl_r, qkl_l, qkl_n, qIsI_i, qIsL_l, qIsR_r, qint_i, qil_i, qil_r, qil_l, qf4_0, qf4_1, qf4_2, qf4_3, qf2_0, qf2_1, qcs_n, qcs_i, qcs_r, qcs_l, qst_n, qst_c, qJ_0, qJ_st, qJ_go, qfl_I, qfl_Z, qfl_L, qfl_R, qrI_i, qrL_l, qrV_v, qRcv_0, qRcv_s, eq_self, true_and, and_true, true_or, or_true, false_and, and_false, false_or, or_false, ite_true, if_true, if_false, Bool.true_or, Bool.false_or, Bool.or_false, beq_self_eq_true, Bool.false_eq_true, bX7_step_0, bX7_step_37, bX7_step_50, bX7_step_91, bX7_step_105, bX7_step_119, bX7_step_144, bX7_step_148, bX7_step_149, bX7_step_167, kX7_step_0, kX7_step_37, kX7_step_50, kX7_step_91, kX7_step_105, kX7_step_119, kX7_step_144, kX7_step_148, kX7_step_149, kX7_step_167, qK_50, qR_50_0, qK_51, qR_50_13, qK_52]
    have k3 : (qwi (qwi σ1 50 5 (σ1.1 50 3)) 50 7 (iI (-1))).1 50 3 = nI q := by rw [qwi_1, if_neg (by decide), qwi_1, if_neg (by decide)]; exact e1
    have k5 : (qwi (qwi σ1 50 5 (σ1.1 50 3)) 50 7 (iI (-1))).1 50 5 = nI q := by rw [qwi_1, if_neg (by decide), qwi_1, if_pos ⟨rfl, rfl⟩]; exact e1
    have k7 : (qwi (qwi σ1 50 5 (σ1.1 50 3)) 50 7 (iI (-1))).1 50 7 = iI (-1) := by rw [qwi_1, if_pos ⟨rfl, rfl⟩]
    have f2 : zG zPxs zRxt σ (qwi (qwi σ1 50 5 (σ1.1 50 3)) 50 7 (iI (-1))) := (f1.tr (zG.wi ⟨rfl, by decide, by decide⟩)).tr (zG.wi ⟨rfl, by decide, by decide⟩)
    generalize qwi (qwi σ1 50 5 (σ1.1 50 3)) 50 7 (iI (-1)) = σ2 at k3 k5 k7 f2 ⊢
    have r2 := h.s f2
    simp only [k3]
    refine qBI.fn (x_signAt hB r2 (by omega)) (by decide) ?_
    simp only [k3]
    rw [r2.1]
    clear ih more
    subst eqs
    have y22 : zkc 22 = iI (-1) := rfl
    have h9 := zB_999 hB (tkS B p)
    -- what is to be shown at the end
    have fin : ∀ (l : Option qPV) (σ3 : qSg), zXt σ3 B n p → zG zPxs zRxt σ σ3 → qV 93 3 (.inr (.inr fun σ' => zXt σ' B n p ∧ zG zPxs zRxt σ σ')) 167 [some (qr 50), l] [] σ3 := by
      intro l σ3 a1 a2
      refine qV.go 30 [9999] ok_93 ?_
      simp only [qW_nop, qW_iconst, qW_iconstm, qW_bipush, qW_iloadn, qW_aloadn, qW_istoren, qW_iadd, qW_dup, qW_ifeq, qW_iceq, qW_icne, qW_iclt, qW_icge, qW_goto, qW_getf, qW_vret, qW_cs1_0, qW_cv1_2, qW_cv2_0, qW_putf0, Nat.reduceAdd, Nat.reduceMul, Nat.reduceBEq, Nat.reduceEqDiff, Nat.reduceLT, Nat.reduceLeDiff, Nat.zero_le, nI_add, nI_mul, nI_cl, qin_eq, qofI, qlg_0, qlg_s, qls_i0, qls_r0, qls_l0, qls_1, qls_2, qkl_i, qkl_r, qkl_l, qkl_n, qIsI_i, qIsL_l, qIsR_r, qint_i, qil_i, qil_r, qil_l, qf4_0, qf4_1, qf4_2, qf4_3, qf2_0, qf2_1, qcs_n, qcs_i, qcs_r, qcs_l, qst_n, qst_c, qJ_0, qJ_st, qJ_go, qfl_I, qfl_Z, qfl_L, qfl_R, qrI_i, qrL_l, qrV_v, qRcv_0, qRcv_s, eq_self, true_and, and_true, true_or, or_true, false_and, and_false, false_or, or_false, ite_true, if_true, if_false, Bool.true_or, Bool.false_or, Bool.or_false, beq_self_eq_true, Bool.false_eq_true, bX7_step_0, bX7_step_37, bX7_step_50, bX7_step_91, bX7_step_105, bX7_step_119, bX7_step_144, bX7_step_148, bX7_step_149, bX7_step_167, kX7_step_0, kX7_step_37, kX7_step_50, kX7_step_91, kX7_step_105, kX7_step_119, kX7_step_144, kX7_step_148, kX7_step_149, kX7_step_167, qK_50, qR_50_0, qK_51, qR_50_13, qK_52]
      exact ⟨a1, a2⟩
    simp (disch := omega) only [nI_leI, nI_ltI, nI_eq, nI_cl, qin_eq, nI_add, nI_mul, qb_z, qb_t, qb_f, nI_ne0', Nat.reduceAdd, Bool.false_eq_true, if_false, if_true, true_and, and_true, Nat.reduceEqDiff, not_true_eq_false, not_false_eq_true, false_implies, true_implies, ite_true, ite_false]
    refine ⟨fun g => ?_, fun g => ?_⟩
    · -- letters, digits, signs
      have n9 : B (tkS B p) ≠ 999 := fun e => by have := h9.mp e; omega
      have e0 : zc0 (B (tkS B p)) = B (tkS B p) := if_neg n9
      refine qV.go 30 [167] ok_93 ?_
      simp only [qW_nop, qW_iconst, qW_iconstm, qW_bipush, qW_iloadn, qW_aloadn, qW_istoren, qW_iadd, qW_dup, qW_ifeq, qW_iceq, qW_icne, qW_iclt, qW_icge, qW_goto, qW_getf, qW_vret, qW_cs1_0, qW_cv1_2, qW_cv2_0, qW_putf0, Nat.reduceAdd, Nat.reduceMul, Nat.reduceBEq, Nat.reduceEqDiff, Nat.reduceLT, Nat.reduceLeDiff, Nat.zero_le, nI_add, nI_mul, nI_cl, qin_eq, qofI, qlg_0, qlg_s, qls_i0, qls_r0, qls_l0, qls_1, qls_2, qkl_i, qkl_r, qkl_l, qkl_n, qIsI_i, qIsL_l, qIsR_r, qint_i, qil_i, qil_r, qil_l, qf4_0, qf4_1, qf4_2, qf4_3, qf2_0, qf2_1, qcs_n, qcs_i, qcs_r, qcs_l, qst_n, qst_c, qJ_0, qJ_st, qJ_go, qfl_I, qfl_Z, qfl_L, qfl_R, qrI_i, qrL_l, qrV_v, qRcv_0, qRcv_s, eq_self, true_and, and_true, true_or, or_true, false_and, and_false, false_or, or_false, ite_true, if_true, if_false, Bool.true_or, Bool.false_or, Bool.or_false, beq_self_eq_true, Bool.false_eq_true, bX7_step_0, bX7_step_37, bX7_step_50, bX7_step_91, bX7_step_105, bX7_step_119, bX7_step_144, bX7_step_148, bX7_step_149, bX7_step_167, kX7_step_0, kX7_step_37, kX7_step_50, kX7_step_91, kX7_step_105, kX7_step_119, kX7_step_144, kX7_step_148, kX7_step_149, kX7_step_167, qK_50, qR_50_0, qK_51, qR_50_13, qK_52]
      refine qBI.fn (x_isLetter σ2 (by omega)) (by decide) ?_
      rw [zc0_sm]
      have eE0 : tkE B p = if zsm (B (tkS B p)) = true then tkA B (tkS B p) else if zdi (B (tkS B p)) = true then tkD B (tkS B p) else tkS B p + 1 := by unfold tkE; rw [if_neg n9]
      have eK0 : tkK B p = if zsm (B (tkS B p)) = true then 2 else if zdi (B (tkS B p)) = true then (if 4 < tkE B p - tkS B p then 1 else 3) else if zsi (B (tkS B p)) = true then 4 else 1 := by unfold tkK; rw [if_neg n9]
      cases e8 : zsm (B (tkS B p)) with
      | true =>
        rw [e8, if_pos rfl] at eE0 eK0
        simp (disch := omega) only [nI_leI, nI_ltI, nI_eq, nI_cl, qin_eq, nI_add, nI_mul, qb_z, qb_t, qb_f, nI_ne0', Nat.reduceAdd, Bool.false_eq_true, if_false, if_true, true_and, and_true, Nat.reduceEqDiff, not_true_eq_false, not_false_eq_true, false_implies, true_implies, ite_true, ite_false]
        refine qBV.of (x_wordToken hB r2 hs.2.1 k3 k5) (by decide) (fun σ3 g3 => ?_)
        obtain ⟨a1, a2, a3, a4, a5, a6⟩ := g3
        refine fin _ σ3 ⟨r2.s a6, ?_, a3, ?_, ?_, fun _ => ?_, fun hh => ?_, fun hh => ?_⟩ (f2.tr a6)
        · rw [eE0]; exact a1
        · rw [eK0]; exact a2
        · unfold tkY
          rw [if_pos eK0, a4, ← eE0]
          rfl
        · rw [a5, eE0]
        · rw [eK0] at hh; cases hh
        · rw [eK0] at hh; cases hh
      | false =>
        rw [e8, if_neg (by decide)] at eE0 eK0
        simp (disch := omega) only [nI_leI, nI_ltI, nI_eq, nI_cl, qin_eq, nI_add, nI_mul, qb_z, qb_t, qb_f, nI_ne0', Nat.reduceAdd, Bool.false_eq_true, if_false, if_true, true_and, and_true, Nat.reduceEqDiff, not_true_eq_false, not_false_eq_true, false_implies, true_implies, ite_true, ite_false]
        refine qBI.fn (x_isDigit σ2 (by omega)) (by decide) ?_
        rw [zc0_di]
        cases e7 : zdi (B (tkS B p)) with
        | true =>
          rw [e7, if_pos rfl] at eE0 eK0
          simp (disch := omega) only [nI_leI, nI_ltI, nI_eq, nI_cl, qin_eq, nI_add, nI_mul, qb_z, qb_t, qb_f, nI_ne0', Nat.reduceAdd, Bool.false_eq_true, if_false, if_true, true_and, and_true, Nat.reduceEqDiff, not_true_eq_false, not_false_eq_true, false_implies, true_implies, ite_true, ite_false]
          refine qBV.of (x_numberToken hB r2 hs.2.1 k3 k5 k7) (by decide) (fun σ3 g3 => ?_)
          obtain ⟨a1, a2, a3, a4, a5, a6⟩ := g3
          have n2 : tkK B p ≠ 2 := by rw [eK0]; split <;> decide
          refine fin _ σ3 ⟨r2.s a6, ?_, a3, ?_, ?_, fun hh => absurd hh n2, fun hh => ?_, fun hh => ?_⟩ (f2.tr a6)
          · rw [eE0]; exact a1
          · rw [a2, eK0, eE0]
            split <;> rfl
          · unfold tkY
            rw [if_neg n2, a4]
            rfl
          · have hd := tkN_di hB hp hh
            rw [hd.2.2.2, eE0]
            exact a5 (by rw [← eE0]; exact hd.2.1)
          · rw [eK0] at hh
            split at hh <;> cases hh
        | false =>
          rw [e7, if_neg (by decide)] at eE0 eK0
          have nK : tkK B p = 4 ∨ tkK B p = 1 := by rw [eK0]; split <;> simp
          have last : ∀ v, v = nI (zkd (tkK B p)) → qV 93 3 (.inr (.inr fun σ' => zXt σ' B n p ∧ zG zPxs zRxt σ σ')) 167 [some (qr 50), some (qi (nI (zc0 (B (tkS B p)))))] [] (qwi (qwi (qwi σ2 50 4 v) 50 9 (nI (zc0 (B (tkS B p))))) 50 3 ((qwi (qwi σ2 50 4 v) 50 9 (nI (zc0 (B (tkS B p))))).1 50 3 + nI 1)) := by
            intro v hv
            have f3 : zG zPxs zRxt σ2 (qwi (qwi (qwi σ2 50 4 v) 50 9 (nI (zc0 (B (tkS B p))))) 50 3 ((qwi (qwi σ2 50 4 v) 50 9 (nI (zc0 (B (tkS B p))))).1 50 3 + nI 1)) := ((zG.wi ⟨rfl, by decide, by decide⟩).tr (zG.wi ⟨rfl, by decide, by decide⟩)).tr (zG.wi ⟨rfl, by decide, by decide⟩)
            refine fin _ _ ⟨r2.s f3, ?_, ?_, ?_, ?_, fun hh => by omega, fun hh => by omega, fun hh => ?_⟩ (f2.tr f3)
            · rw [qwi_1, if_pos ⟨rfl, rfl⟩, qwi_1, if_neg (by decide), qwi_1, if_neg (by decide), k3, nI_add, eE0]
            · rw [qwi_1, if_neg (by decide), qwi_1, if_neg (by decide), qwi_1, if_neg (by decide)]; exact k5
            · rw [qwi_1, if_neg (by decide), qwi_1, if_neg (by decide), qwi_1, if_pos ⟨rfl, rfl⟩]; exact hv
            · rw [qwi_1, if_neg (by decide), qwi_1, if_neg (by decide), qwi_1, if_neg (by decide), k7]
              unfold tkY
              rw [if_neg (by omega)]
              rfl
            · rw [qwi_1, if_neg (by decide), qwi_1, if_pos ⟨rfl, rfl⟩, tkV_s (by omega), e0]
          have c9 : B (tkS B p) < 256 := by rw [← e0]; exact zc0_lt hB _
          rw [e0] at last ⊢
          unfold zsi at eK0
          simp (disch := omega) only [nI_leI, nI_ltI, nI_eq, nI_cl, qin_eq, nI_add, nI_mul, qb_z, qb_t, qb_f, nI_ne0', Nat.reduceAdd, Bool.false_eq_true, if_false, if_true, true_and, and_true, Nat.reduceEqDiff, not_true_eq_false, not_false_eq_true, false_implies, true_implies, ite_true, ite_false]
          refine ⟨fun g1 => ?_, fun g1 => ⟨fun g2 => ?_, fun g2 => ⟨fun g3 => ?_, fun g3 => ⟨fun g4 => ?_, fun g4 => ?_⟩⟩⟩⟩
          · exact last _ (by rw [eK0]; simp [g1, zkd])
          · exact last _ (by rw [eK0]; simp [g2, zkd])
          · exact last _ (by rw [eK0]; simp [g3, zkd])
          · exact last _ (by rw [eK0]; simp [g1, g2, g3, g4, zkd])
          · exact last _ (by rw [eK0]; simp [g4, zkd])
    · -- the end
      have e9 : B (tkS B p) = 999 := h9.mpr (by omega)
      have eE : tkE B p = tkS B p := by unfold tkE; rw [if_pos e9]
      have eK : tkK B p = 0 := by unfold tkK; rw [if_pos e9]
      have f3 : zG zPxs zRxt σ2 (qwi σ2 50 4 (nI 0)) := zG.wi ⟨rfl, by decide, by decide⟩
      refine fin _ _ ⟨r2.s f3, ?_, ?_, ?_, ?_, fun hh => by omega, fun hh => by omega, fun hh => by omega⟩ (f2.tr f3)
      · rw [qwi_1, if_neg (by decide), eE]; exact k3
      · rw [qwi_1, if_neg (by decide)]; exact k5
      · rw [qwi_1, if_pos ⟨rfl, rfl⟩, eK]; rfl
      · rw [qwi_1, if_neg (by decide), k7]
        unfold tkY
        rw [if_neg (by omega)]
        rfl
  simp (disch := omega) only [nI_leI, nI_ltI, nI_eq, nI_cl, qin_eq, nI_add, nI_mul, qb_z, qb_t, qb_f, nI_ne0', Nat.reduceAdd, Bool.false_eq_true, if_false, if_true, true_and, and_true, Nat.reduceEqDiff, not_true_eq_false, not_false_eq_true, false_implies, true_implies, ite_true, ite_false]
  refine ⟨fun g => on (eq9 (by omega)), fun g => ?_⟩
  refine qBI.fn (x_signAt hB r1 (by omega)) (by decide) ?_
  simp only [e1]
  simp (disch := omega) only [nI_leI, nI_ltI, nI_eq, nI_cl, qin_eq, nI_add, nI_mul, qb_z, qb_t, qb_f, nI_ne0', Nat.reduceAdd, Bool.false_eq_true, if_false, if_true, true_and, and_true, Nat.reduceEqDiff, not_true_eq_false, not_false_eq_true, false_implies, true_implies, ite_true, ite_false]
  refine ⟨fun g1 => more (by rw [ebl, decide_eq_true g1, Bool.or_true]), fun g1 => ?_⟩
  refine qBI.fn (x_signAt hB r1 (by omega)) (by decide) ?_
  simp (disch := omega) only [nI_leI, nI_ltI, nI_eq, nI_cl, qin_eq, nI_add, nI_mul, qb_z, qb_t, qb_f, nI_ne0', Nat.reduceAdd, Bool.false_eq_true, if_false, if_true, true_and, and_true, Nat.reduceEqDiff, not_true_eq_false, not_false_eq_true, false_implies, true_implies, ite_true, ite_false]
  exact ⟨fun g2 => on (by rw [ebl, decide_eq_false g1, decide_eq_false g2]; rfl), fun g2 => more (by rw [ebl, decide_eq_true g2, Bool.true_or])⟩
