/-! the class: the quickest set, the quickest cell -/
def zPpl (a : Nat) (_ : Nat) : Prop := 13 ≤ a ∧ a ≤ 40
def zRpl (a : Nat) (_ : Nat) : Prop := a = 14 ∨ a = 27
theorem zPpl_k {a j : Nat} (h : zPlk a j) : zPpl a j := by unfold zPlk at h; unfold zPpl; omega
set_option maxRecDepth 20000 in
theorem x_bfi {σ : qSg} {C : zC} (h : zX σ 1 C) (hw : zW C) (hm : C 0 5 ≤ 99000) {s : Nat} (hs : s < 2147483648) : qCI 5 76 [qr 40, qr 1, qi (nI s)] σ (fun v σ' => v = nI (zbrk (zgiveS C s (C 0 0))) ∧ zG (fun a _ => 13 ≤ a ∧ a ≤ 39) zRpl σ σ') := by
  obtain ⟨wb, wq, ww1, ww2, wh1, wh2, wo, wm, wB, wQ⟩ := id hw
  refine qCI.of [some (qr 40), some (qr 1), some (qi (nI s)), none] ok_76 (Nat.le_of_ble_eq_true rfl) rfl ?_
  refine qV.go 30 [10] ok_76 ?_
  simp only [qW_nop, qW_iconst, qW_iloadn, qW_aloadn, qW_istoren, qW_iinc, qW_iand, qW_ishl, qW_pop, qW_ifeq, qW_icge, qW_goto, qW_getf, qW_cv2_0, qW_cv2_2, qW_iret0, Nat.reduceAdd, Nat.reduceMul, Nat.reduceBEq, Nat.reduceEqDiff, Nat.reduceLT, Nat.reduceLeDiff, Nat.zero_le, nI_add, nI_mul, nI_cl, qin_eq, qofI, qlg_0, qlg_s, qls_i0, qls_r0, qls_l0, qls_1, qls_2, qkl_i, qkl_r, qkl_l, qkl_n, qIsI_i, qIsL_l, qIsR_r, qint_i, qil_i, qil_r, qil_l, qf4_0, qf4_1, qf4_2, qf4_3, qf2_0, qf2_1, qcs_n, qcs_i, qcs_r, qcs_l, qst_n, qst_c, qJ_0, qJ_st, qJ_go, qfl_I, qfl_Z, qfl_L, qfl_R, qrI_i, qrL_l, qrV_v, qRcv_0, qRcv_s, eq_self, true_and, and_true, true_or, or_true, false_and, and_false, false_or, or_false, ite_true, if_true, if_false, Bool.true_or, Bool.false_or, Bool.or_false, beq_self_eq_true, Bool.false_eq_true, bX6_breakfastIfYield_0, bX6_breakfastIfYield_10, bX6_breakfastIfYield_35, bX6_breakfastIfYield_41, kX6_breakfastIfYield_0, kX6_breakfastIfYield_10, kX6_breakfastIfYield_35, kX6_breakfastIfYield_41, qK_40, qR_40_0, qK_13, qR_40_1, qK_25, qK_1, qR_1_6, qK_2, qR_1_7, qK_3, qR_1_8, qK_4, qR_1_9, qK_5, qR_1_10, qK_6, qR_1_11, qK_7, qR_1_12, qK_8, qR_1_13, qK_9, qR_1_14, qK_10, qR_1_15, qK_11, qR_1_16, qK_12, qK_13, qR_13_6, qK_14, qR_13_7, qK_15, qR_13_8, qK_16, qR_13_9, qK_17, qR_13_10, qK_18, qR_13_11, qK_19, qR_13_12, qK_20, qR_13_13, qK_21, qR_13_14, qK_22, qR_13_15, qK_23, qR_13_16, qK_24]
  refine qBV.of (x_copy zCb_t zCb_n (by decide) h hw) (by decide) (fun σ0 g0 => ?_)
  obtain ⟨x0, -, f0⟩ := g0
  have f0 : zG (fun a _ => 13 ≤ a ∧ a ≤ 39) zRpl σ σ0 := f0.wk (fun a j hh => by unfold zXf at hh; omega) (fun a j hh => Or.inl hh)
  refine qdown (n := C 0 0) (P := fun b => ∀ σ1, zX σ1 13 (zgiveS C s b) → zG (fun a _ => 13 ≤ a ∧ a ≤ 39) zRpl σ σ1 → qV 76 5 (.inl fun v σ' => v = nI (zbrk (zgiveS C s (C 0 0))) ∧ zG (fun a _ => 13 ≤ a ∧ a ≤ 39) zRpl σ σ') 10 [some (qr 40), some (qr 1), some (qi (nI s)), some (qi (nI b))] [] σ1) (fun b hb ih => ?_) 0 (Nat.zero_le _) σ0 x0 f0
  intro σ1 x1 f1
  have w1 := zgiveS_W hw s b
  have e0 : zgiveS C s b 0 0 = C 0 0 := zgiveS_q _ _ _ _ (by decide) (by decide) _
  have e5 : zgiveS C s b 0 5 = C 0 5 := zgiveS_q _ _ _ _ (by decide) (by decide) _
  have eb : σ1.1 1 4 = nI (C 0 0) := by rw [f1.1 _ _ (by omega)]; exact h.1.b
  have e : zgiveS C s (b + 1) = if s.testBit b then zgive (zgiveS C s b) b else zgiveS C s b := rfl
  refine qV.go 30 [10, 35] ok_76 ?_
  simp only [qW_nop, qW_iconst, qW_iloadn, qW_aloadn, qW_istoren, qW_iinc, qW_iand, qW_ishl, qW_pop, qW_ifeq, qW_icge, qW_goto, qW_getf, qW_cv2_0, qW_cv2_2, qW_iret0, Nat.reduceAdd, Nat.reduceMul, Nat.reduceBEq, Nat.reduceEqDiff, Nat.reduceLT, Nat.reduceLeDiff, Nat.zero_le, nI_add, nI_mul, nI_cl, qin_eq, qofI, qlg_0, qlg_s, qls_i0, qls_r0, qls_l0, qls_1, qls_2, qkl_i, qkl_r, qkl_l, qkl_n, qIsI_i, qIsL_l, qIsR_r, qint_i, qil_i, qil_r, qil_l, qf4_0, qf4_1, qf4_2, qf4_3, qf2_0, qf2_1, qcs_n, qcs_i, qcs_r, qcs_l, qst_n, qst_c, qJ_0, qJ_st, qJ_go, qfl_I, qfl_Z, qfl_L, qfl_R, qrI_i, qrL_l, qrV_v, qRcv_0, qRcv_s, eq_self, true_and, and_true, true_or, or_true, false_and, and_false, false_or, or_false, ite_true, if_true, if_false, Bool.true_or, Bool.false_or, Bool.or_false, beq_self_eq_true, Bool.false_eq_true, bX6_breakfastIfYield_0, bX6_breakfastIfYield_10, bX6_breakfastIfYield_35, bX6_breakfastIfYield_41, kX6_breakfastIfYield_0, kX6_breakfastIfYield_10, kX6_breakfastIfYield_35, kX6_breakfastIfYield_41, qK_40, qR_40_0, qK_13, qR_40_1, qK_25, qK_1, qR_1_6, qK_2, qR_1_7, qK_3, qR_1_8, qK_4, qR_1_9, qK_5, qR_1_10, qK_6, qR_1_11, qK_7, qR_1_12, qK_8, qR_1_13, qK_9, qR_1_14, qK_10, qR_1_15, qK_11, qR_1_16, qK_12, qK_13, qR_13_6, qK_14, qR_13_7, qK_15, qR_13_8, qK_16, qR_13_9, qK_17, qR_13_10, qK_18, qR_13_11, qK_19, qR_13_12, qK_20, qR_13_13, qK_21, qR_13_14, qK_22, qR_13_15, qK_23, qR_13_16, qK_24]
  rw [eb]
  simp (disch := omega) only [nI_leI, nI_ltI, nI_eq, nI_cl, qin_eq, nI_add, nI_mul, qb_z, qb_t, qb_f, nI_ne0', Nat.reduceAdd, Bool.false_eq_true, if_false, if_true, true_and, and_true, Nat.reduceEqDiff, not_true_eq_false, not_false_eq_true, false_implies, true_implies, ite_true, ite_false]
  refine ⟨fun g => ?_, fun g => ?_⟩
  · have : b = C 0 0 := by omega
    subst this
    refine qBI.of (x_look zCb_t (by decide) x1 w1 (by omega)) (by decide) (fun v σ2 g2 => ?_)
    obtain ⟨rfl, -, -, -, -, f2⟩ := g2
    exact ⟨rfl, f1.tr (f2.wk (fun a j hh => by unfold zPlk at hh; omega) (fun a j hh => Or.inr hh))⟩
  · have hb1 : b < C 0 0 := by omega
    have st : ∀ σ2, zX σ2 13 (zgiveS C s (b + 1)) → zG (fun a _ => 13 ≤ a ∧ a ≤ 39) zRpl σ σ2 → qV 76 5 (.inl fun v σ' => v = nI (zbrk (zgiveS C s (C 0 0))) ∧ zG (fun a _ => 13 ≤ a ∧ a ≤ 39) zRpl σ σ') 35 [some (qr 40), some (qr 1), some (qi (nI s)), some (qi (nI b))] [] σ2 := by
      intro σ2 y1 y2
      refine qV.go 30 [10] ok_76 ?_
      simp only [qW_nop, qW_iconst, qW_iloadn, qW_aloadn, qW_istoren, qW_iinc, qW_iand, qW_ishl, qW_pop, qW_ifeq, qW_icge, qW_goto, qW_getf, qW_cv2_0, qW_cv2_2, qW_iret0, Nat.reduceAdd, Nat.reduceMul, Nat.reduceBEq, Nat.reduceEqDiff, Nat.reduceLT, Nat.reduceLeDiff, Nat.zero_le, nI_add, nI_mul, nI_cl, qin_eq, qofI, qlg_0, qlg_s, qls_i0, qls_r0, qls_l0, qls_1, qls_2, qkl_i, qkl_r, qkl_l, qkl_n, qIsI_i, qIsL_l, qIsR_r, qint_i, qil_i, qil_r, qil_l, qf4_0, qf4_1, qf4_2, qf4_3, qf2_0, qf2_1, qcs_n, qcs_i, qcs_r, qcs_l, qst_n, qst_c, qJ_0, qJ_st, qJ_go, qfl_I, qfl_Z, qfl_L, qfl_R, qrI_i, qrL_l, qrV_v, qRcv_0, qRcv_s, eq_self, true_and, and_true, true_or, or_true, false_and, and_false, false_or, or_false, ite_true, if_true, if_false, Bool.true_or, Bool.false_or, Bool.or_false, beq_self_eq_true, Bool.false_eq_true, bX6_breakfastIfYield_0, bX6_breakfastIfYield_10, bX6_breakfastIfYield_35, bX6_breakfastIfYield_41, kX6_breakfastIfYield_0, kX6_breakfastIfYield_10, kX6_breakfastIfYield_35, kX6_breakfastIfYield_41, qK_40, qR_40_0, qK_13, qR_40_1, qK_25, qK_1, qR_1_6, qK_2, qR_1_7, qK_3, qR_1_8, qK_4, qR_1_9, qK_5, qR_1_10, qK_6, qR_1_11, qK_7, qR_1_12, qK_8, qR_1_13, qK_9, qR_1_14, qK_10, qR_1_15, qK_11, qR_1_16, qK_12, qK_13, qR_13_6, qK_14, qR_13_7, qK_15, qR_13_8, qK_16, qR_13_9, qK_17, qR_13_10, qK_18, qR_13_11, qK_19, qR_13_12, qK_20, qR_13_13, qK_21, qR_13_14, qK_22, qR_13_15, qK_23, qR_13_16, qK_24]
      exact ih hb1 σ2 y1 y2
    rw [e] at st
    rw [qshl1 (by omega)]
    simp only [nI_and0 hs]
    refine ⟨fun h8 => st σ1 (by rw [h8]; exact x1) f1, fun h8 => ?_⟩
    have h8 : s.testBit b = true := by simpa using h8
    rw [h8] at st
    refine qBI.of (x_giveIn zCb_t x1 w1 (b := b) (by omega)) (by decide) (fun v σ2 g2 => ?_)
    obtain ⟨-, y1, y2⟩ := g2
    exact st σ2 y1 (f1.tr (y2.g fun a j hh => by unfold zXf at hh; omega))
set_option maxRecDepth 20000 in
theorem x_quickSet {σ : qSg} {C : zC} (h : zX σ 1 C) (hw : zW C) (hm : C 0 5 ≤ 99000) {k : Nat} (hk : k ≤ 4) : qCI 6 75 [qr 40, qr 1, qi (nI k)] σ (fun v σ' => v = nI (zsoon C k).1.toNat ∧ σ'.1 40 2 = nI (zsoon C k).2 ∧ zG zPpl zRpl σ σ') := by
  obtain ⟨wb, wq, ww1, ww2, wh1, wh2, wo, wm, wB, wQ⟩ := id hw
  have hp := Nat.two_pow_pos (C 0 0)
  have hp2 := zpow_le hw
  refine qCI.of [some (qr 40), some (qr 1), some (qi (nI k)), none, none, none] ok_75 (Nat.le_of_ble_eq_true rfl) rfl ?_
  refine qV.go 30 [11] ok_75 ?_
  simp only [qW_nop, qW_iconst, qW_ldc, qW_iloadn, qW_iload, qW_aloadn, qW_istoren, qW_istore, qW_iinc, qW_ishl, qW_icne, qW_icge, qW_goto, qW_getf, qW_cs1_0, qW_cv3_0, qW_iret0, qW_putf0, Nat.reduceAdd, Nat.reduceMul, Nat.reduceBEq, Nat.reduceEqDiff, Nat.reduceLT, Nat.reduceLeDiff, Nat.zero_le, nI_add, nI_mul, nI_cl, qin_eq, qofI, qlg_0, qlg_s, qls_i0, qls_r0, qls_l0, qls_1, qls_2, qkl_i, qkl_r, qkl_l, qkl_n, qIsI_i, qIsL_l, qIsR_r, qint_i, qil_i, qil_r, qil_l, qf4_0, qf4_1, qf4_2, qf4_3, qf2_0, qf2_1, qcs_n, qcs_i, qcs_r, qcs_l, qst_n, qst_c, qJ_0, qJ_st, qJ_go, qfl_I, qfl_Z, qfl_L, qfl_R, qrI_i, qrL_l, qrV_v, qRcv_0, qRcv_s, eq_self, true_and, and_true, true_or, or_true, false_and, and_false, false_or, or_false, ite_true, if_true, if_false, Bool.true_or, Bool.false_or, Bool.or_false, beq_self_eq_true, Bool.false_eq_true, bX6_quickestSet_0, bX6_quickestSet_11, bX6_quickestSet_58, bX6_quickestSet_64, kX6_quickestSet_0, kX6_quickestSet_11, kX6_quickestSet_58, kX6_quickestSet_64, qK_40, qR_40_0, qK_13, qR_40_1, qK_25, qK_1, qR_1_6, qK_2, qR_1_7, qK_3, qR_1_8, qK_4, qR_1_9, qK_5, qR_1_10, qK_6, qR_1_11, qK_7, qR_1_12, qK_8, qR_1_13, qK_9, qR_1_14, qK_10, qR_1_15, qK_11, qR_1_16, qK_12]
  have fr0 : zG zPpl zRpl σ (qwi σ 40 2 (nI 1000000)) := zG.wi ⟨by decide, by decide⟩
  refine qdown (n := 2 ^ C 0 0) (P := fun s => ∀ σ1 (l5 : Option qPV), σ1.1 40 2 = nI (zsf C k s).2 → zG zPpl zRpl σ σ1 → qV 75 6 (.inl fun v σ' => v = nI (zsoon C k).1.toNat ∧ σ'.1 40 2 = nI (zsoon C k).2 ∧ zG zPpl zRpl σ σ') 11 [some (qr 40), some (qr 1), some (qi (nI k)), some (qi (nI (zsf C k s).1.toNat)), some (qi (nI s)), l5] [] σ1) (fun s hs ih => ?_) 0 (Nat.zero_le _) _ none (by rw [qwi_1, if_pos ⟨rfl, rfl⟩]; rfl) fr0
  intro σ1 l5 r1 f1
  have eb : σ1.1 1 4 = nI (C 0 0) := by rw [f1.1 _ _ (by unfold zPpl; omega)]; exact h.1.b
  have x1 : zX σ1 1 C := h.fr fun a j h1 h2 => f1.1 a j (by unfold zPpl; omega)
  have bd := zsf_bd hw hm k s hs
  have e : zsf C k (s + 1) = if zpop s = k ∧ zbrk (zgiveS C s (C 0 0)) < (zsf C k s).2 then ((s : Int), zbrk (zgiveS C s (C 0 0))) else zsf C k s := rfl
  refine qV.go 30 [11, 58] ok_75 ?_
  simp only [qW_nop, qW_iconst, qW_ldc, qW_iloadn, qW_iload, qW_aloadn, qW_istoren, qW_istore, qW_iinc, qW_ishl, qW_icne, qW_icge, qW_goto, qW_getf, qW_cs1_0, qW_cv3_0, qW_iret0, qW_putf0, Nat.reduceAdd, Nat.reduceMul, Nat.reduceBEq, Nat.reduceEqDiff, Nat.reduceLT, Nat.reduceLeDiff, Nat.zero_le, nI_add, nI_mul, nI_cl, qin_eq, qofI, qlg_0, qlg_s, qls_i0, qls_r0, qls_l0, qls_1, qls_2, qkl_i, qkl_r, qkl_l, qkl_n, qIsI_i, qIsL_l, qIsR_r, qint_i, qil_i, qil_r, qil_l, qf4_0, qf4_1, qf4_2, qf4_3, qf2_0, qf2_1, qcs_n, qcs_i, qcs_r, qcs_l, qst_n, qst_c, qJ_0, qJ_st, qJ_go, qfl_I, qfl_Z, qfl_L, qfl_R, qrI_i, qrL_l, qrV_v, qRcv_0, qRcv_s, eq_self, true_and, and_true, true_or, or_true, false_and, and_false, false_or, or_false, ite_true, if_true, if_false, Bool.true_or, Bool.false_or, Bool.or_false, beq_self_eq_true, Bool.false_eq_true, bX6_quickestSet_0, bX6_quickestSet_11, bX6_quickestSet_58, bX6_quickestSet_64, kX6_quickestSet_0, kX6_quickestSet_11, kX6_quickestSet_58, kX6_quickestSet_64, qK_40, qR_40_0, qK_13, qR_40_1, qK_25, qK_1, qR_1_6, qK_2, qR_1_7, qK_3, qR_1_8, qK_4, qR_1_9, qK_5, qR_1_10, qK_6, qR_1_11, qK_7, qR_1_12, qK_8, qR_1_13, qK_9, qR_1_14, qK_10, qR_1_15, qK_11, qR_1_16, qK_12]
  rw [eb, qshl1 (by omega)]
  simp (disch := omega) only [nI_leI, nI_ltI, nI_eq, nI_cl, qin_eq, nI_add, nI_mul, qb_z, qb_t, qb_f, nI_ne0', Nat.reduceAdd, Bool.false_eq_true, if_false, if_true, true_and, and_true, Nat.reduceEqDiff, not_true_eq_false, not_false_eq_true, false_implies, true_implies, ite_true, ite_false]
  refine ⟨fun g => ?_, fun g => ?_⟩
  · have : s = 2 ^ C 0 0 := by omega
    subst this
    exact ⟨rfl, r1, f1⟩
  · have st : ∀ σ2 v l5, v = nI (zsf C k (s + 1)).1.toNat → σ2.1 40 2 = nI (zsf C k (s + 1)).2 → zG zPpl zRpl σ σ2 → qV 75 6 (.inl fun v σ' => v = nI (zsoon C k).1.toNat ∧ σ'.1 40 2 = nI (zsoon C k).2 ∧ zG zPpl zRpl σ σ') 58 [some (qr 40), some (qr 1), some (qi (nI k)), some (qi v), some (qi (nI s)), l5] [] σ2 := by
      intro σ2 v l5 hv y1 y2
      subst hv
      refine qV.go 30 [11] ok_75 ?_
      simp only [qW_nop, qW_iconst, qW_ldc, qW_iloadn, qW_iload, qW_aloadn, qW_istoren, qW_istore, qW_iinc, qW_ishl, qW_icne, qW_icge, qW_goto, qW_getf, qW_cs1_0, qW_cv3_0, qW_iret0, qW_putf0, Nat.reduceAdd, Nat.reduceMul, Nat.reduceBEq, Nat.reduceEqDiff, Nat.reduceLT, Nat.reduceLeDiff, Nat.zero_le, nI_add, nI_mul, nI_cl, qin_eq, qofI, qlg_0, qlg_s, qls_i0, qls_r0, qls_l0, qls_1, qls_2, qkl_i, qkl_r, qkl_l, qkl_n, qIsI_i, qIsL_l, qIsR_r, qint_i, qil_i, qil_r, qil_l, qf4_0, qf4_1, qf4_2, qf4_3, qf2_0, qf2_1, qcs_n, qcs_i, qcs_r, qcs_l, qst_n, qst_c, qJ_0, qJ_st, qJ_go, qfl_I, qfl_Z, qfl_L, qfl_R, qrI_i, qrL_l, qrV_v, qRcv_0, qRcv_s, eq_self, true_and, and_true, true_or, or_true, false_and, and_false, false_or, or_false, ite_true, if_true, if_false, Bool.true_or, Bool.false_or, Bool.or_false, beq_self_eq_true, Bool.false_eq_true, bX6_quickestSet_0, bX6_quickestSet_11, bX6_quickestSet_58, bX6_quickestSet_64, kX6_quickestSet_0, kX6_quickestSet_11, kX6_quickestSet_58, kX6_quickestSet_64, qK_40, qR_40_0, qK_13, qR_40_1, qK_25, qK_1, qR_1_6, qK_2, qR_1_7, qK_3, qR_1_8, qK_4, qR_1_9, qK_5, qR_1_10, qK_6, qR_1_11, qK_7, qR_1_12, qK_8, qR_1_13, qK_9, qR_1_14, qK_10, qR_1_15, qK_11, qR_1_16, qK_12]
      exact ih (by omega) σ2 l5 y1 y2
    rw [e] at st
    refine qBI.fn (x_bits σ1 (by omega)) (by decide) ?_
    have p1 : zpop s ≤ 31 := zpop_le (k := 31) (by omega)
    simp (disch := omega) only [nI_leI, nI_ltI, nI_eq, nI_cl, qin_eq, nI_add, nI_mul, qb_z, qb_t, qb_f, nI_ne0', Nat.reduceAdd, Bool.false_eq_true, if_false, if_true, true_and, and_true, Nat.reduceEqDiff, not_true_eq_false, not_false_eq_true, false_implies, true_implies, ite_true, ite_false]
    refine ⟨fun h1 => st σ1 _ _ (by rw [if_neg (fun hh => h1 hh.1)]) (by rw [if_neg (fun hh => h1 hh.1)]; exact r1) f1, fun h1 => ?_⟩
    refine qBI.of (x_bfi x1 hw hm (s := s) (by omega)) (by decide) (fun v σ2 g2 => ?_)
    obtain ⟨rfl, y1⟩ := g2
    have f2 : zG zPpl zRpl σ σ2 := f1.tr (y1.wk (fun a j hh => ⟨hh.1, by omega⟩) (fun a j hh => hh))
    have r2 : σ2.1 40 2 = nI (zsf C k s).2 := by rw [y1.1 _ _ (by omega)]; exact r1
    have zb := zbrk_le (zgiveS_W hw s (C 0 0)) (by rw [zgiveS_q _ _ _ _ (by decide) (by decide)]; exact hm)
    rw [r2]
    simp (disch := omega) only [nI_leI, nI_ltI, nI_eq, nI_cl, qin_eq, nI_add, nI_mul, qb_z, qb_t, qb_f, nI_ne0', Nat.reduceAdd, Bool.false_eq_true, if_false, if_true, true_and, and_true, Nat.reduceEqDiff, not_true_eq_false, not_false_eq_true, false_implies, true_implies, ite_true, ite_false]
    refine ⟨fun h2 => st σ2 _ _ (by rw [if_neg (fun hh => by omega)]) (by rw [if_neg (fun hh => by omega)]; exact r2) f2, fun h2 => ?_⟩
    refine st _ _ _ ?_ ?_ (f2.tr (zG.wi ⟨by decide, by decide⟩))
    · rw [if_pos ⟨h1, by omega⟩]; rfl
    · rw [if_pos ⟨h1, by omega⟩, qwi_1, if_pos ⟨rfl, rfl⟩]
