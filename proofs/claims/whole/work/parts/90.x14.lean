/-! the class: the quickest cell -/
set_option maxRecDepth 20000 in
theorem x_quickCell {σ : qSg} {C : zC} (h : zX σ 1 C) (hw : zW C) (hm : C 0 5 ≤ 99000) {b : Nat} (hb : b < C 0 0) : qCI 5 77 [qr 40, qr 1, qi (nI b)] σ (fun v σ' => v = nI (zbest C b).1 ∧ σ'.1 40 2 = nI (zbest C b).2 ∧ zG zPpl zRpl σ σ') := by
  obtain ⟨wb, wq, ww1, ww2, wh1, wh2, wo, wm, wB, wQ⟩ := id hw
  have hc := zSW_cells hw
  refine qCI.of [some (qr 40), some (qr 1), some (qi (nI b)), none, none, none, none] ok_77 (Nat.le_of_ble_eq_true rfl) rfl ?_
  refine qV.go 30 [30] ok_77 ?_
  simp only [qW_nop, qW_iconst, qW_ldc, qW_iloadn, qW_iload, qW_aloadn, qW_istoren, qW_istore, qW_iinc, qW_imul, qW_icge, qW_goto, qW_getf, qW_cv2_0, qW_cv2_2, qW_cv3_2, qW_iret0, qW_putf0, Nat.reduceAdd, Nat.reduceMul, Nat.reduceBEq, Nat.reduceEqDiff, Nat.reduceLT, Nat.reduceLeDiff, Nat.zero_le, nI_add, nI_mul, nI_cl, qin_eq, qofI, qlg_0, qlg_s, qls_i0, qls_r0, qls_l0, qls_1, qls_2, qkl_i, qkl_r, qkl_l, qkl_n, qIsI_i, qIsL_l, qIsR_r, qint_i, qil_i, qil_r, qil_l, qf4_0, qf4_1, qf4_2, qf4_3, qf2_0, qf2_1, qcs_n, qcs_i, qcs_r, qcs_l, qst_n, qst_c, qJ_0, qJ_st, qJ_go, qfl_I, qfl_Z, qfl_L, qfl_R, qrI_i, qrL_l, qrV_v, qRcv_0, qRcv_s, eq_self, true_and, and_true, true_or, or_true, false_and, and_false, false_or, or_false, ite_true, if_true, if_false, Bool.true_or, Bool.false_or, Bool.or_false, beq_self_eq_true, Bool.false_eq_true, bX6_quickestCell_0, bX6_quickestCell_30, bX6_quickestCell_78, bX6_quickestCell_84, kX6_quickestCell_0, kX6_quickestCell_30, kX6_quickestCell_78, kX6_quickestCell_84, qK_40, qR_40_0, qK_13, qR_40_1, qK_25, qK_1, qR_1_6, qK_2, qR_1_7, qK_3, qR_1_8, qK_4, qR_1_9, qK_5, qR_1_10, qK_6, qR_1_11, qK_7, qR_1_12, qK_8, qR_1_13, qK_9, qR_1_14, qK_10, qR_1_15, qK_11, qR_1_16, qK_12, qK_13, qR_13_6, qK_14, qR_13_7, qK_15, qR_13_8, qK_16, qR_13_9, qK_17, qR_13_10, qK_18, qR_13_11, qK_19, qR_13_12, qK_20, qR_13_13, qK_21, qR_13_14, qK_22, qR_13_15, qK_23, qR_13_16, qK_24]
  have x0 : zX (qwi σ 40 2 (nI 1000000)) 1 C := h.fr fun a j h1 h2 => by rw [qwi_1, if_neg (by omega)]
  have fr0 : zG zPpl zRpl σ (qwi σ 40 2 (nI 1000000)) := zG.wi ⟨by decide, by decide⟩
  refine qBV.of (x_copy zCb_t zCb_n (by decide) x0 hw) (by decide) (fun σ0 g0 => ?_)
  obtain ⟨y0, -, f0⟩ := g0
  have f0' : zG zPpl zRpl σ σ0 := fr0.tr (f0.wk (fun a j hh => by unfold zXf at hh; unfold zPpl; omega) (fun a j hh => Or.inl hh))
  have r0 : σ0.1 40 2 = nI 1000000 := by rw [f0.1 _ _ (by unfold zXf; omega), qwi_1, if_pos ⟨rfl, rfl⟩]
  have xn0 : zX σ0 1 C := x0.fr fun a j h1 h2 => f0.1 a j (by unfold zXf; omega)
  have e10 : σ0.1 1 0 = nI (C 0 2) := xn0.1.w
  have e11 : σ0.1 1 1 = nI (C 0 3) := xn0.1.h
  rw [e10, e11, nI_mul]
  refine qdown (n := C 0 2 * C 0 3) (P := fun c => ∀ σ1 (l6 : Option qPV), (∃ d, zX σ1 13 (zu C 1 b d) ∧ d < C 0 2 * C 0 3) → σ1.1 40 2 = nI (zbf C b c).2 → zG zPpl zRpl σ σ1 → qV 77 5 (.inl fun v σ' => v = nI (zbest C b).1 ∧ σ'.1 40 2 = nI (zbest C b).2 ∧ zG zPpl zRpl σ σ') 30 [some (qr 40), some (qr 1), some (qi (nI b)), some (qi (nI (zbf C b c).1)), some (qi (nI (C 0 2 * C 0 3))), some (qi (nI c)), l6] [] σ1) (fun c hc1 ih => ?_) 0 (Nat.zero_le _) σ0 none ⟨C 1 b, by rw [zu_self]; exact y0, (wB b hb).1⟩ r0 f0'
  intro σ1 l6 hd r1 f1
  obtain ⟨d, x1, hd2⟩ := hd
  have bd := zbf_bd hw hm b c hc1
  have e : zbf C b (c + 1) = if zbrk (zu C 1 b c) < (zbf C b c).2 then (c, zbrk (zu C 1 b c)) else zbf C b c := rfl
  refine qV.go 30 [30, 78] ok_77 ?_
  simp only [qW_nop, qW_iconst, qW_ldc, qW_iloadn, qW_iload, qW_aloadn, qW_istoren, qW_istore, qW_iinc, qW_imul, qW_icge, qW_goto, qW_getf, qW_cv2_0, qW_cv2_2, qW_cv3_2, qW_iret0, qW_putf0, Nat.reduceAdd, Nat.reduceMul, Nat.reduceBEq, Nat.reduceEqDiff, Nat.reduceLT, Nat.reduceLeDiff, Nat.zero_le, nI_add, nI_mul, nI_cl, qin_eq, qofI, qlg_0, qlg_s, qls_i0, qls_r0, qls_l0, qls_1, qls_2, qkl_i, qkl_r, qkl_l, qkl_n, qIsI_i, qIsL_l, qIsR_r, qint_i, qil_i, qil_r, qil_l, qf4_0, qf4_1, qf4_2, qf4_3, qf2_0, qf2_1, qcs_n, qcs_i, qcs_r, qcs_l, qst_n, qst_c, qJ_0, qJ_st, qJ_go, qfl_I, qfl_Z, qfl_L, qfl_R, qrI_i, qrL_l, qrV_v, qRcv_0, qRcv_s, eq_self, true_and, and_true, true_or, or_true, false_and, and_false, false_or, or_false, ite_true, if_true, if_false, Bool.true_or, Bool.false_or, Bool.or_false, beq_self_eq_true, Bool.false_eq_true, bX6_quickestCell_0, bX6_quickestCell_30, bX6_quickestCell_78, bX6_quickestCell_84, kX6_quickestCell_0, kX6_quickestCell_30, kX6_quickestCell_78, kX6_quickestCell_84, qK_40, qR_40_0, qK_13, qR_40_1, qK_25, qK_1, qR_1_6, qK_2, qR_1_7, qK_3, qR_1_8, qK_4, qR_1_9, qK_5, qR_1_10, qK_6, qR_1_11, qK_7, qR_1_12, qK_8, qR_1_13, qK_9, qR_1_14, qK_10, qR_1_15, qK_11, qR_1_16, qK_12, qK_13, qR_13_6, qK_14, qR_13_7, qK_15, qR_13_8, qK_16, qR_13_9, qK_17, qR_13_10, qK_18, qR_13_11, qK_19, qR_13_12, qK_20, qR_13_13, qK_21, qR_13_14, qK_22, qR_13_15, qK_23, qR_13_16, qK_24]
  simp (disch := omega) only [nI_leI, nI_ltI, nI_eq, nI_cl, qin_eq, nI_add, nI_mul, qb_z, qb_t, qb_f, nI_ne0', Nat.reduceAdd, Bool.false_eq_true, if_false, if_true, true_and, and_true, Nat.reduceEqDiff, not_true_eq_false, not_false_eq_true, false_implies, true_implies, ite_true, ite_false]
  refine ⟨fun g => ?_, fun g => ?_⟩
  · have : c = C 0 2 * C 0 3 := by omega
    subst this
    exact ⟨rfl, r1, f1⟩
  · have hc2 : c < C 0 2 * C 0 3 := by omega
    have wd := zu1_W hw (b := b) hd2
    have wc := zu1_W hw (b := b) hc2
    have d0 : zu C 1 b d 0 0 = C 0 0 := zu_ne (by omega)
    have d2 : zu C 1 b d 0 2 = C 0 2 := zu_ne (by omega)
    have d3 : zu C 1 b d 0 3 = C 0 3 := zu_ne (by omega)
    have c5 : zu C 1 b c 0 5 = C 0 5 := zu_ne (by omega)
    have st : ∀ σ2 v l6, zX σ2 13 (zu C 1 b c) → v = nI (zbf C b (c + 1)).1 → σ2.1 40 2 = nI (zbf C b (c + 1)).2 → zG zPpl zRpl σ σ2 → qV 77 5 (.inl fun v σ' => v = nI (zbest C b).1 ∧ σ'.1 40 2 = nI (zbest C b).2 ∧ zG zPpl zRpl σ σ') 78 [some (qr 40), some (qr 1), some (qi (nI b)), some (qi v), some (qi (nI (C 0 2 * C 0 3))), some (qi (nI c)), l6] [] σ2 := by
      intro σ2 v l6 hx hv y1 y2
      subst hv
      refine qV.go 30 [30] ok_77 ?_
      simp only [qW_nop, qW_iconst, qW_ldc, qW_iloadn, qW_iload, qW_aloadn, qW_istoren, qW_istore, qW_iinc, qW_imul, qW_icge, qW_goto, qW_getf, qW_cv2_0, qW_cv2_2, qW_cv3_2, qW_iret0, qW_putf0, Nat.reduceAdd, Nat.reduceMul, Nat.reduceBEq, Nat.reduceEqDiff, Nat.reduceLT, Nat.reduceLeDiff, Nat.zero_le, nI_add, nI_mul, nI_cl, qin_eq, qofI, qlg_0, qlg_s, qls_i0, qls_r0, qls_l0, qls_1, qls_2, qkl_i, qkl_r, qkl_l, qkl_n, qIsI_i, qIsL_l, qIsR_r, qint_i, qil_i, qil_r, qil_l, qf4_0, qf4_1, qf4_2, qf4_3, qf2_0, qf2_1, qcs_n, qcs_i, qcs_r, qcs_l, qst_n, qst_c, qJ_0, qJ_st, qJ_go, qfl_I, qfl_Z, qfl_L, qfl_R, qrI_i, qrL_l, qrV_v, qRcv_0, qRcv_s, eq_self, true_and, and_true, true_or, or_true, false_and, and_false, false_or, or_false, ite_true, if_true, if_false, Bool.true_or, Bool.false_or, Bool.or_false, beq_self_eq_true, Bool.false_eq_true, bX6_quickestCell_0, bX6_quickestCell_30, bX6_quickestCell_78, bX6_quickestCell_84, kX6_quickestCell_0, kX6_quickestCell_30, kX6_quickestCell_78, kX6_quickestCell_84, qK_40, qR_40_0, qK_13, qR_40_1, qK_25, qK_1, qR_1_6, qK_2, qR_1_7, qK_3, qR_1_8, qK_4, qR_1_9, qK_5, qR_1_10, qK_6, qR_1_11, qK_7, qR_1_12, qK_8, qR_1_13, qK_9, qR_1_14, qK_10, qR_1_15, qK_11, qR_1_16, qK_12, qK_13, qR_13_6, qK_14, qR_13_7, qK_15, qR_13_8, qK_16, qR_13_9, qK_17, qR_13_10, qK_18, qR_13_11, qK_19, qR_13_12, qK_20, qR_13_13, qK_21, qR_13_14, qK_22, qR_13_15, qK_23, qR_13_16, qK_24]
      exact ih hc2 σ2 l6 ⟨c, hx, hc2⟩ y1 y2
    rw [e] at st
    refine qBV.of (x_place zCb_t x1.1 wd (b := b) (c := c) (by omega) (by rw [d2, d3]; exact hc2)) (by decide) (fun σ2 g2 => ?_)
    obtain ⟨x2, y2⟩ := g2
    rw [zu_zu] at x2
    refine qBI.of (x_look zCb_t (by decide) x2 wc (by omega)) (by decide) (fun v σ3 g3 => ?_)
    obtain ⟨rfl, -, -, -, -, f3⟩ := g3
    have x3 : zX σ3 13 (zu C 1 b c) := x2.fr fun a j h1 h2 => f3.1 a j (by unfold zPlk; omega)
    have f2 : zG zPpl zRpl σ σ3 := f1.tr (zG.tr (y2.g fun a j hh => by unfold zXf at hh; unfold zPpl; omega) (f3.wk (fun a j hh => zPpl_k hh) (fun a j hh => Or.inr hh)))
    have r2 : σ3.1 40 2 = nI (zbf C b c).2 := by rw [f3.1 _ _ (by unfold zPlk; omega), y2.1 _ _ (by unfold zXf; omega)]; exact r1
    have zb := zbrk_le wc (by omega)
    rw [r2]
    simp (disch := omega) only [nI_leI, nI_ltI, nI_eq, nI_cl, qin_eq, nI_add, nI_mul, qb_z, qb_t, qb_f, nI_ne0', Nat.reduceAdd, Bool.false_eq_true, if_false, if_true, true_and, and_true, Nat.reduceEqDiff, not_true_eq_false, not_false_eq_true, false_implies, true_implies, ite_true, ite_false]
    refine ⟨fun h2 => st σ3 _ _ x3 (by rw [if_neg (by omega)]) (by rw [if_neg (by omega)]; exact r2) f2, fun h2 => ?_⟩
    refine st _ _ _ (x3.fr fun a j h1 h2 => by rw [qwi_1, if_neg (by omega)]) ?_ ?_ (f2.tr (zG.wi ⟨by decide, by decide⟩))
    · rw [if_pos (by omega)]
    · rw [if_pos (by omega), qwi_1, if_pos ⟨rfl, rfl⟩]
