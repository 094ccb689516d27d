/-! the class: which prides fit -/
def zPcl (a : Nat) (_ : Nat) : Prop := (13 ≤ a ∧ a ≤ 39) ∨ a = 44
set_option maxRecDepth 20000 in
theorem x_fitting {σ : qSg} {C : zC} (h : zX σ 1 C) (hw : zW C) (hm : C 0 5 ≤ 99000) {b n : Nat} {s a : Nat → Nat} (hb : b < C 0 0) (hn : n ≤ 20) (hc : zCl σ n s a) (hs : ∀ i, i < n → s i < C 0 0) (ha : ∀ i, i < n → a i ≤ 200) :
    qCI 5 43 [qr 41, qr 1, qi (nI b)] σ (fun v σ' => v = nI (bm 31 (zps fun p => zall (fun i => decide (zupb (zu C 2 b p) (s i) = a i)) n)) ∧ zUb σ' (C 0 0) (fun p => zupb (zu C 2 b p)) ∧ zG zPcl zRpl σ σ') := by
  obtain ⟨wb, wq, ww1, ww2, wh1, wh2, wo, wm, wB, wQ⟩ := id hw
  refine qCI.of [some (qr 41), some (qr 1), some (qi (nI b)), none, none] ok_43 (Nat.le_of_ble_eq_true rfl) rfl ?_
  refine qV.go 30 [23] ok_43 ?_
  simp only [qW_nop, qW_iconst, qW_bipush, qW_iloadn, qW_iload, qW_aloadn, qW_istoren, qW_istore, qW_iinc, qW_imul, qW_ior, qW_ishl, qW_pop, qW_ifeq, qW_ifne, qW_icgt, qW_goto, qW_getf, qW_iast, qW_cv2_0, qW_cv2_2, qW_iret0, qW_cpyI, qW_cpyL, qrg_8, qrg_10, qrg_60, Nat.reduceAdd, Nat.reduceMul, Nat.reduceBEq, Nat.reduceEqDiff, Nat.reduceLT, Nat.reduceLeDiff, Nat.zero_le, nI_add, nI_mul, nI_cl, qin_eq, qofI, qlg_0, qlg_s, qls_i0, qls_r0, qls_l0, qls_1, qls_2, qkl_i, qkl_r, qkl_l, qkl_n, qIsI_i, qIsL_l, qIsR_r, qint_i, qil_i, qil_r, qil_l, qf4_0, qf4_1, qf4_2, qf4_3, qf2_0, qf2_1, qcs_n, qcs_i, qcs_r, qcs_l, qst_n, qst_c, qJ_0, qJ_st, qJ_go, qfl_I, qfl_Z, qfl_L, qfl_R, qrI_i, qrL_l, qrV_v, qRcv_0, qRcv_s, eq_self, true_and, and_true, true_or, or_true, false_and, and_false, false_or, or_false, ite_true, if_true, if_false, Bool.true_or, Bool.false_or, Bool.or_false, beq_self_eq_true, Bool.false_eq_true, bX3_fittingPrides_0, bX3_fittingPrides_12, bX3_fittingPrides_23, bX3_fittingPrides_93, bX3_fittingPrides_99, kX3_fittingPrides_0, kX3_fittingPrides_12, kX3_fittingPrides_23, kX3_fittingPrides_93, kX3_fittingPrides_99, qK_41, qR_41_0, qK_13, qR_41_1, qK_25, qR_41_2, qK_42, qR_41_3, qK_43, qR_41_5, qK_44, qK_1, qR_1_6, qK_2, qR_1_7, qK_3, qR_1_8, qK_4, qR_1_9, qK_5, qR_1_10, qK_6, qR_1_11, qK_7, qR_1_12, qK_8, qR_1_13, qK_9, qR_1_14, qK_10, qR_1_15, qK_11, qR_1_16, qK_12, qK_13, qR_13_6, qK_14, qR_13_7, qK_15, qR_13_8, qK_16, qR_13_9, qK_17, qR_13_10, qK_18, qR_13_11, qK_19, qR_13_12, qK_20, qR_13_13, qK_21, qR_13_14, qK_22, qR_13_15, qK_23, qR_13_16, qK_24, qK_25, qR_25_0, qK_26, qR_25_1, qK_38, qR_25_2, qK_39]
  refine qBI.fn (x_hasBoy zCb_n h.1 hw _) (by decide) ?_
  rw [zrg_k hb (by omega)]
  simp (disch := omega) only [nI_leI, nI_ltI, nI_eq, nI_cl, qin_eq, nI_add, nI_mul, qb_z, qb_t, qb_f, nI_ne0', Nat.reduceAdd, Bool.false_eq_true, if_false, if_true, true_and, and_true, Nat.reduceEqDiff, not_true_eq_false, not_false_eq_true, false_implies, true_implies, ite_true, ite_false]
  refine qBV.of (x_copy zCb_t zCb_n (by decide) h hw) (by decide) (fun σ0 g0 => ?_)
  obtain ⟨y0, -, f0⟩ := g0
  have f0' : zG zPcl zRpl σ σ0 := f0.wk (fun a j hh => by unfold zXf at hh; unfold zPcl; omega) (fun a j hh => Or.inl hh)
  have key := qdown (n := 30) (P := fun c => ∀ σ1, (∃ D, zX σ1 13 D ∧ (D = C ∨ ∃ p, 1 ≤ p ∧ p ≤ 30 ∧ D = zu C 2 b p)) → (∀ p, 1 ≤ p → p < c + 1 → ∀ j, j < C 0 0 → σ1.1 44 (8 * p + j) = nI (zupb (zu C 2 b p) j)) → zG zPcl zRpl σ σ1 → qV 43 5 (.inl fun v σ' => v = nI (bm 31 (zps fun p => zall (fun i => decide (zupb (zu C 2 b p) (s i) = a i)) n)) ∧ zUb σ' (C 0 0) (fun p => zupb (zu C 2 b p)) ∧ zG zPcl zRpl σ σ') 23 [some (qr 41), some (qr 1), some (qi (nI b)), some (qi (nI (bm (c + 1) (zps fun p => zall (fun i => decide (zupb (zu C 2 b p) (s i) = a i)) n)))), some (qi (nI (c + 1)))] [] σ1) (fun c hc1 ih => ?_) 0 (Nat.zero_le _) σ0 ⟨C, y0, Or.inl rfl⟩ (fun p h1 h2 => by omega) f0'
  · have e0 : bm (0 + 1) (zps fun p => zall (fun i => decide (zupb (zu C 2 b p) (s i) = a i)) n) = 0 := by simp [bm, zps]
    rw [e0] at key
    exact key
  · intro σ1 hD u1 f1
    obtain ⟨D, x1, hD2⟩ := hD
    refine qV.go 30 [23, 93] ok_43 ?_
    simp only [qW_nop, qW_iconst, qW_bipush, qW_iloadn, qW_iload, qW_aloadn, qW_istoren, qW_istore, qW_iinc, qW_imul, qW_ior, qW_ishl, qW_pop, qW_ifeq, qW_ifne, qW_icgt, qW_goto, qW_getf, qW_iast, qW_cv2_0, qW_cv2_2, qW_iret0, qW_cpyI, qW_cpyL, qrg_8, qrg_10, qrg_60, Nat.reduceAdd, Nat.reduceMul, Nat.reduceBEq, Nat.reduceEqDiff, Nat.reduceLT, Nat.reduceLeDiff, Nat.zero_le, nI_add, nI_mul, nI_cl, qin_eq, qofI, qlg_0, qlg_s, qls_i0, qls_r0, qls_l0, qls_1, qls_2, qkl_i, qkl_r, qkl_l, qkl_n, qIsI_i, qIsL_l, qIsR_r, qint_i, qil_i, qil_r, qil_l, qf4_0, qf4_1, qf4_2, qf4_3, qf2_0, qf2_1, qcs_n, qcs_i, qcs_r, qcs_l, qst_n, qst_c, qJ_0, qJ_st, qJ_go, qfl_I, qfl_Z, qfl_L, qfl_R, qrI_i, qrL_l, qrV_v, qRcv_0, qRcv_s, eq_self, true_and, and_true, true_or, or_true, false_and, and_false, false_or, or_false, ite_true, if_true, if_false, Bool.true_or, Bool.false_or, Bool.or_false, beq_self_eq_true, Bool.false_eq_true, bX3_fittingPrides_0, bX3_fittingPrides_12, bX3_fittingPrides_23, bX3_fittingPrides_93, bX3_fittingPrides_99, kX3_fittingPrides_0, kX3_fittingPrides_12, kX3_fittingPrides_23, kX3_fittingPrides_93, kX3_fittingPrides_99, qK_41, qR_41_0, qK_13, qR_41_1, qK_25, qR_41_2, qK_42, qR_41_3, qK_43, qR_41_5, qK_44, qK_1, qR_1_6, qK_2, qR_1_7, qK_3, qR_1_8, qK_4, qR_1_9, qK_5, qR_1_10, qK_6, qR_1_11, qK_7, qR_1_12, qK_8, qR_1_13, qK_9, qR_1_14, qK_10, qR_1_15, qK_11, qR_1_16, qK_12, qK_13, qR_13_6, qK_14, qR_13_7, qK_15, qR_13_8, qK_16, qR_13_9, qK_17, qR_13_10, qK_18, qR_13_11, qK_19, qR_13_12, qK_20, qR_13_13, qK_21, qR_13_14, qK_22, qR_13_15, qK_23, qR_13_16, qK_24, qK_25, qR_25_0, qK_26, qR_25_1, qK_38, qR_25_2, qK_39]
    simp (disch := omega) only [nI_leI, nI_ltI, nI_eq, nI_cl, qin_eq, nI_add, nI_mul, qb_z, qb_t, qb_f, nI_ne0', Nat.reduceAdd, Bool.false_eq_true, if_false, if_true, true_and, and_true, Nat.reduceEqDiff, not_true_eq_false, not_false_eq_true, false_implies, true_implies, ite_true, ite_false]
    refine ⟨fun g => ?_, fun g => ?_⟩
    · have : c = 30 := by omega
      subst this
      exact ⟨rfl, fun p h1 h2 j hj => u1 p h1 (by omega) j hj, f1⟩
    · have eD : zu D 2 b (c + 1) = zu C 2 b (c + 1) := by
        rcases hD2 with rfl | ⟨p, -, -, rfl⟩
        · rfl
        · exact zu_zu
      have x2 : zX (qwi σ1 16 b (nI (c + 1))) 13 (zu C 2 b (c + 1)) := by
        have := x1.ub (f := 1) (b := b) (v := c + 1) (by decide) (by decide) (by decide)
        rw [show zu D (1 + 1) b (c + 1) = zu C 2 b (c + 1) from eD] at this
        exact this
      have w2 := zu2_W hw (b := b) (p := c + 1) (by omega) (by omega)
      have e0 : zu C 2 b (c + 1) 0 0 = C 0 0 := zu_ne (by omega)
      have e5 : zu C 2 b (c + 1) 0 5 = C 0 5 := zu_ne (by omega)
      refine qBI.of (x_look zCb_t (by decide) x2 w2 (by omega)) (by decide) (fun v σ2 g2 => ?_)
      obtain ⟨-, -, up2, -, -, f2⟩ := g2
      have fr2 : zG zPcl zRpl σ σ2 := f1.tr (zG.tr (zG.wi (Or.inl ⟨by decide, by decide⟩)) (f2.wk (fun a j hh => by unfold zPlk at hh; unfold zPcl; omega) (fun a j hh => Or.inr hh)))
      have q1 : qrg (nI 0) (nI 8) 8 := qrg_n (by decide) (by decide)
      have q2 : qrg (nI ((c + 1) * 8)) (nI 8) 248 := qrg_n (by omega) (by decide)
      rw [qW_cpyI (ha := rfl) (hb := rfl)]
      simp only [qW_nop, qW_iconst, qW_bipush, qW_iloadn, qW_iload, qW_aloadn, qW_istoren, qW_istore, qW_iinc, qW_imul, qW_ior, qW_ishl, qW_pop, qW_ifeq, qW_ifne, qW_icgt, qW_goto, qW_getf, qW_iast, qW_cv2_0, qW_cv2_2, qW_iret0, qW_cpyI, qW_cpyL, qrg_8, qrg_10, qrg_60, Nat.reduceAdd, Nat.reduceMul, Nat.reduceBEq, Nat.reduceEqDiff, Nat.reduceLT, Nat.reduceLeDiff, Nat.zero_le, nI_add, nI_mul, nI_cl, qin_eq, qofI, qlg_0, qlg_s, qls_i0, qls_r0, qls_l0, qls_1, qls_2, qkl_i, qkl_r, qkl_l, qkl_n, qIsI_i, qIsL_l, qIsR_r, qint_i, qil_i, qil_r, qil_l, qf4_0, qf4_1, qf4_2, qf4_3, qf2_0, qf2_1, qcs_n, qcs_i, qcs_r, qcs_l, qst_n, qst_c, qJ_0, qJ_st, qJ_go, qfl_I, qfl_Z, qfl_L, qfl_R, qrI_i, qrL_l, qrV_v, qRcv_0, qRcv_s, eq_self, true_and, and_true, true_or, or_true, false_and, and_false, false_or, or_false, ite_true, if_true, if_false, Bool.true_or, Bool.false_or, Bool.or_false, beq_self_eq_true, Bool.false_eq_true, bX3_fittingPrides_0, bX3_fittingPrides_12, bX3_fittingPrides_23, bX3_fittingPrides_93, bX3_fittingPrides_99, kX3_fittingPrides_0, kX3_fittingPrides_12, kX3_fittingPrides_23, kX3_fittingPrides_93, kX3_fittingPrides_99, qK_41, qR_41_0, qK_13, qR_41_1, qK_25, qR_41_2, qK_42, qR_41_3, qK_43, qR_41_5, qK_44, qK_1, qR_1_6, qK_2, qR_1_7, qK_3, qR_1_8, qK_4, qR_1_9, qK_5, qR_1_10, qK_6, qR_1_11, qK_7, qR_1_12, qK_8, qR_1_13, qK_9, qR_1_14, qK_10, qR_1_15, qK_11, qR_1_16, qK_12, qK_13, qR_13_6, qK_14, qR_13_7, qK_15, qR_13_8, qK_16, qR_13_9, qK_17, qR_13_10, qK_18, qR_13_11, qK_19, qR_13_12, qK_20, qR_13_13, qK_21, qR_13_14, qK_22, qR_13_15, qK_23, qR_13_16, qK_24, qK_25, qR_25_0, qK_26, qR_25_1, qK_38, qR_25_2, qK_39]
      refine ⟨q2, ?_⟩
      have fr3 : zG zPcl zRpl σ (qci σ2 38 0 44 ((c + 1) * 8) 8) := fr2.tr ⟨fun a j hn => by rw [qci_1, if_neg (fun hh => hn (Or.inr hh))], fun a j _ => rfl⟩
      have k44 : ∀ j, (qci σ2 38 0 44 ((c + 1) * 8) 8).1 44 j = if (c + 1) * 8 ≤ j ∧ j < (c + 1) * 8 + 8 then σ2.1 38 (0 + (j - (c + 1) * 8)) else σ1.1 44 j := fun j => by
        rw [qci_1, if_pos rfl]
        by_cases e : (c + 1) * 8 ≤ j ∧ j < (c + 1) * 8 + 8
        · rw [if_pos e, if_pos e]
        · rw [if_neg e, if_neg e, f2.1 44 _ (by unfold zPlk; omega), qwi_1, if_neg (fun hh => absurd hh.1 (by decide))]
      have ko : ∀ a j, a ≠ 44 → (qci σ2 38 0 44 ((c + 1) * 8) 8).1 a j = σ2.1 a j := fun a j hn => by rw [qci_1, if_neg hn]
      have x3 : zX σ2 13 (zu C 2 b (c + 1)) := x2.fr fun a j h1 h2 => f2.1 a j (by unfold zPlk; omega)
      have x4 : zX (qci σ2 38 0 44 ((c + 1) * 8) 8) 13 (zu C 2 b (c + 1)) := x3.fr fun a j h1 h2 => ko a j (by omega)
      rw [nI_cl (show (c + 1) * 8 < 2147483648 by omega)]
      generalize qci σ2 38 0 44 ((c + 1) * 8) 8 = T at fr3 k44 ko x4 ⊢
      have eb : T.1 1 4 = nI (C 0 0) := by rw [fr3.1 _ _ (by unfold zPcl; omega)]; exact h.1.b
      have hcT : zCl T n s a := ⟨by rw [fr3.1 _ _ (by unfold zPcl; omega)]; exact hc.1, fun i hi => ⟨by rw [fr3.1 _ _ (by unfold zPcl; omega)]; exact (hc.2 i hi).1, by rw [fr3.1 _ _ (by unfold zPcl; omega)]; exact (hc.2 i hi).2⟩⟩
      have ub : ∀ j, zupb (zu C 2 b (c + 1)) j ≤ 1000 := fun j => by
        have := zlst_le (fun n => zUp (zit n (zu C 2 b (c + 1))) j) 300 0
        have e : zupb (zu C 2 b (c + 1)) j = zlst (fun n => zUp (zit n (zu C 2 b (c + 1))) j) 300 0 := rfl
        rw [e]; omega
      have u2 : ∀ p, 1 ≤ p → p < c + 1 + 1 → ∀ j, j < C 0 0 → T.1 44 (8 * p + j) = nI (zupb (zu C 2 b p) j) := fun p h1 h2 j hj => by
        rw [k44]
        by_cases e : p = c + 1
        · subst e
          rw [if_pos ⟨by omega, by omega⟩, show 0 + (8 * (c + 1) + j - (c + 1) * 8) = j by omega]
          exact up2 j (by omega)
        · rw [if_neg (by omega)]
          exact u1 p h1 (by omega) j hj
      rw [eb]
      refine qBI.fn (x_asSeen wb hn hcT hs ha (U := zupb (zu C 2 b (c + 1))) (fun j hj => by rw [ko _ _ (by decide)]; exact up2 j (by omega)) (fun j _ => ub j)) (by decide) ?_
      have nx : ∀ v, v = nI (bm (c + 1 + 1) (zps fun p => zall (fun i => decide (zupb (zu C 2 b p) (s i) = a i)) n)) → qV 43 5 (.inl fun v σ' => v = nI (bm 31 (zps fun p => zall (fun i => decide (zupb (zu C 2 b p) (s i) = a i)) n)) ∧ zUb σ' (C 0 0) (fun p => zupb (zu C 2 b p)) ∧ zG zPcl zRpl σ σ') 93 [some (qr 41), some (qr 1), some (qi (nI b)), some (qi v), some (qi (nI (c + 1)))] [] T := by
        intro v hv
        subst hv
        refine qV.go 30 [23] ok_43 ?_
        simp only [qW_nop, qW_iconst, qW_bipush, qW_iloadn, qW_iload, qW_aloadn, qW_istoren, qW_istore, qW_iinc, qW_imul, qW_ior, qW_ishl, qW_pop, qW_ifeq, qW_ifne, qW_icgt, qW_goto, qW_getf, qW_iast, qW_cv2_0, qW_cv2_2, qW_iret0, qW_cpyI, qW_cpyL, qrg_8, qrg_10, qrg_60, Nat.reduceAdd, Nat.reduceMul, Nat.reduceBEq, Nat.reduceEqDiff, Nat.reduceLT, Nat.reduceLeDiff, Nat.zero_le, nI_add, nI_mul, nI_cl, qin_eq, qofI, qlg_0, qlg_s, qls_i0, qls_r0, qls_l0, qls_1, qls_2, qkl_i, qkl_r, qkl_l, qkl_n, qIsI_i, qIsL_l, qIsR_r, qint_i, qil_i, qil_r, qil_l, qf4_0, qf4_1, qf4_2, qf4_3, qf2_0, qf2_1, qcs_n, qcs_i, qcs_r, qcs_l, qst_n, qst_c, qJ_0, qJ_st, qJ_go, qfl_I, qfl_Z, qfl_L, qfl_R, qrI_i, qrL_l, qrV_v, qRcv_0, qRcv_s, eq_self, true_and, and_true, true_or, or_true, false_and, and_false, false_or, or_false, ite_true, if_true, if_false, Bool.true_or, Bool.false_or, Bool.or_false, beq_self_eq_true, Bool.false_eq_true, bX3_fittingPrides_0, bX3_fittingPrides_12, bX3_fittingPrides_23, bX3_fittingPrides_93, bX3_fittingPrides_99, kX3_fittingPrides_0, kX3_fittingPrides_12, kX3_fittingPrides_23, kX3_fittingPrides_93, kX3_fittingPrides_99, qK_41, qR_41_0, qK_13, qR_41_1, qK_25, qR_41_2, qK_42, qR_41_3, qK_43, qR_41_5, qK_44]
        exact ih (by omega) T ⟨_, x4, Or.inr ⟨c + 1, by omega, by omega, rfl⟩⟩ u2 fr3
      have ez : (zps fun p => zall (fun i => decide (zupb (zu C 2 b p) (s i) = a i)) n) (c + 1) = zall (fun i => decide (zupb (zu C 2 b (c + 1)) (s i) = a i)) n := by
        unfold zps
        rw [decide_eq_true (by omega), Bool.true_and]
      simp (disch := omega) only [nI_leI, nI_ltI, nI_eq, nI_cl, qin_eq, nI_add, nI_mul, qb_z, qb_t, qb_f, nI_ne0', Nat.reduceAdd, Bool.false_eq_true, if_false, if_true, true_and, and_true, Nat.reduceEqDiff, not_true_eq_false, not_false_eq_true, false_implies, true_implies, ite_true, ite_false]
      refine ⟨fun h1 => nx _ ?_, fun h1 => nx _ ?_⟩
      · rw [← qset_not (P := zps fun p => zall (fun i => decide (zupb (zu C 2 b p) (s i) = a i)) n) (n := c + 1) (by rw [ez]; exact h1)]
      · rw [← qset_add (P := zps fun p => zall (fun i => decide (zupb (zu C 2 b p) (s i) = a i)) n) (n := c + 1) (by omega) (by rw [ez]; simpa using h1)]
