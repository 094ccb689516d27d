/-! the class: wars -/
set_option maxRecDepth 20000 in
theorem x_won (σ : qSg) {g a b : Nat} (hg : g < 1000) (ha : a < 1000) (hb : b < 1000) : qFI 1 51 [qi (nI a), qi (nI b), qi (nI g)] σ (iI (zhave g a b)) := by
  refine qCI.of [some (qi (nI a)), some (qi (nI b)), some (qi (nI g))] ok_51 (Nat.le_of_ble_eq_true rfl) rfl ?_
  refine qV.go 30 [9999] ok_51 ?_
  simp only [qW_nop, qW_iloadn, qW_isub, qW_ineg, qW_icgt, qW_goto, qW_iret0, Nat.reduceAdd, Nat.reduceMul, Nat.reduceBEq, Nat.reduceEqDiff, Nat.reduceLT, Nat.reduceLeDiff, Nat.zero_le, nI_add, nI_mul, nI_cl, qin_eq, qofI, qlg_0, qlg_s, qls_i0, qls_r0, qls_l0, qls_1, qls_2, qkl_i, qkl_r, qkl_l, qkl_n, qIsI_i, qIsL_l, qIsR_r, qint_i, qil_i, qil_r, qil_l, qf4_0, qf4_1, qf4_2, qf4_3, qf2_0, qf2_1, qcs_n, qcs_i, qcs_r, qcs_l, qst_n, qst_c, qJ_0, qJ_st, qJ_go, qfl_I, qfl_Z, qfl_L, qfl_R, qrI_i, qrL_l, qrV_v, qRcv_0, qRcv_s, eq_self, true_and, and_true, true_or, or_true, false_and, and_false, false_or, or_false, ite_true, if_true, if_false, Bool.true_or, Bool.false_or, Bool.or_false, beq_self_eq_true, Bool.false_eq_true, bX4_won_0, bX4_won_10, bX4_won_13, kX4_won_0, kX4_won_10, kX4_won_13]
  simp (disch := omega) only [nI_leI, nI_ltI, nI_eq, nI_cl, qin_eq, nI_add, nI_mul, qb_z, qb_t, qb_f, nI_ne0', Nat.reduceAdd, Bool.false_eq_true, if_false, if_true, true_and, and_true, Nat.reduceEqDiff, not_true_eq_false, not_false_eq_true, false_implies, true_implies, ite_true, ite_false]
  refine ⟨fun h1 => ?_, fun h1 => ?_⟩
  · rw [iI_nat, iI_nat, iI_sub]; congr 1; unfold zhave; rw [if_pos (by omega)]
  · rw [iI_nat, iI_neg]; congr 1; unfold zhave; rw [if_neg (by omega)]
set_option maxRecDepth 20000 in
theorem x_isRest (σ : qSg) {g a b n : Nat} (hg : g < 1000) (ha : a < 1000) (hb : b < 1000) (hn : n < 900) : qFI 2 52 [qi (nI a), qi (nI b), qi (nI g), qi (nI n)] σ (qb (zrest g a b n)) := by
  refine qCI.of [some (qi (nI a)), some (qi (nI b)), some (qi (nI g)), some (qi (nI n)), none] ok_52 (Nat.le_of_ble_eq_true rfl) rfl ?_
  refine qV.go 30 [3] ok_52 ?_
  simp only [qW_nop, qW_iconst, qW_iloadn, qW_iload, qW_istore, qW_iinc, qW_icgt, qW_icle, qW_goto, qW_cs3_0, qW_iret1, Nat.reduceAdd, Nat.reduceMul, Nat.reduceBEq, Nat.reduceEqDiff, Nat.reduceLT, Nat.reduceLeDiff, Nat.zero_le, nI_add, nI_mul, nI_cl, qin_eq, qofI, qlg_0, qlg_s, qls_i0, qls_r0, qls_l0, qls_1, qls_2, qkl_i, qkl_r, qkl_l, qkl_n, qIsI_i, qIsL_l, qIsR_r, qint_i, qil_i, qil_r, qil_l, qf4_0, qf4_1, qf4_2, qf4_3, qf2_0, qf2_1, qcs_n, qcs_i, qcs_r, qcs_l, qst_n, qst_c, qJ_0, qJ_st, qJ_go, qfl_I, qfl_Z, qfl_L, qfl_R, qrI_i, qrL_l, qrV_v, qRcv_0, qRcv_s, eq_self, true_and, and_true, true_or, or_true, false_and, and_false, false_or, or_false, ite_true, if_true, if_false, Bool.true_or, Bool.false_or, Bool.or_false, beq_self_eq_true, Bool.false_eq_true, bX4_isRest_0, bX4_isRest_3, bX4_isRest_27, bX4_isRest_45, bX4_isRest_51, kX4_isRest_0, kX4_isRest_3, kX4_isRest_27, kX4_isRest_45, kX4_isRest_51]
  refine qdown (n := n + 1) (P := fun k => zall (fun k => decide (¬ zhave g a b < zhave g k b) && decide (¬ zhave g b a < zhave g k a)) k = true → qV 52 2 _ 3 [some (qi (nI a)), some (qi (nI b)), some (qi (nI g)), some (qi (nI n)), some (qi (nI k))] [] σ) (fun k hk ih => ?_) 0 (Nat.zero_le _) rfl
  intro hp
  have no : ∀ k, k < n + 1 → (zhave g a b < zhave g k b ∨ zhave g b a < zhave g k a) → zrest g a b n = false := by
    intro k hk hh
    cases hz : zrest g a b n with
    | false => rfl
    | true =>
      have := (zall_iff _ _).mp hz k hk
      simp only [Bool.and_eq_true, decide_eq_true_eq] at this
      omega
  refine qV.go 30 [3] ok_52 ?_
  simp only [qW_nop, qW_iconst, qW_iloadn, qW_iload, qW_istore, qW_iinc, qW_icgt, qW_icle, qW_goto, qW_cs3_0, qW_iret1, Nat.reduceAdd, Nat.reduceMul, Nat.reduceBEq, Nat.reduceEqDiff, Nat.reduceLT, Nat.reduceLeDiff, Nat.zero_le, nI_add, nI_mul, nI_cl, qin_eq, qofI, qlg_0, qlg_s, qls_i0, qls_r0, qls_l0, qls_1, qls_2, qkl_i, qkl_r, qkl_l, qkl_n, qIsI_i, qIsL_l, qIsR_r, qint_i, qil_i, qil_r, qil_l, qf4_0, qf4_1, qf4_2, qf4_3, qf2_0, qf2_1, qcs_n, qcs_i, qcs_r, qcs_l, qst_n, qst_c, qJ_0, qJ_st, qJ_go, qfl_I, qfl_Z, qfl_L, qfl_R, qrI_i, qrL_l, qrV_v, qRcv_0, qRcv_s, eq_self, true_and, and_true, true_or, or_true, false_and, and_false, false_or, or_false, ite_true, if_true, if_false, Bool.true_or, Bool.false_or, Bool.or_false, beq_self_eq_true, Bool.false_eq_true, bX4_isRest_0, bX4_isRest_3, bX4_isRest_27, bX4_isRest_45, bX4_isRest_51, kX4_isRest_0, kX4_isRest_3, kX4_isRest_27, kX4_isRest_45, kX4_isRest_51]
  simp (disch := omega) only [nI_leI, nI_ltI, nI_eq, nI_cl, qin_eq, nI_add, nI_mul, qb_z, qb_t, qb_f, nI_ne0', Nat.reduceAdd, Bool.false_eq_true, if_false, if_true, true_and, and_true, Nat.reduceEqDiff, not_true_eq_false, not_false_eq_true, false_implies, true_implies, ite_true, ite_false]
  refine ⟨fun h1 => ?_, fun h1 => ?_⟩
  · have e : k = n + 1 := by omega
    subst e
    unfold zrest
    rw [hp]
    simp (disch := omega) only [nI_leI, nI_ltI, nI_eq, nI_cl, qin_eq, nI_add, nI_mul, qb_z, qb_t, qb_f, nI_ne0', Nat.reduceAdd, Bool.false_eq_true, if_false, if_true, true_and, and_true, Nat.reduceEqDiff, not_true_eq_false, not_false_eq_true, false_implies, true_implies, ite_true, ite_false]
  · have hk1 : k < n + 1 := by omega
    have d1 := zhave_bd g k b hg (by omega) hb
    have d2 := zhave_bd g a b hg ha hb
    have d3 := zhave_bd g k a hg (by omega) ha
    have d4 := zhave_bd g b a hg hb ha
    refine qBI.fn (x_won σ hg (by omega) hb) (by decide) (qBI.fn (x_won σ hg ha hb) (by decide) ?_)
    simp only [qlt, qle, iI_toInt (show -2147483648 ≤ zhave g k b by omega) (by omega), iI_toInt (show -2147483648 ≤ zhave g a b by omega) (by omega)]
    refine ⟨fun h2 => ?_, fun h2 => ?_⟩
    · refine qBI.fn (x_won σ hg (by omega) ha) (by decide) (qBI.fn (x_won σ hg hb ha) (by decide) ?_)
      simp only [qlt, qle, iI_toInt (show -2147483648 ≤ zhave g k a by omega) (by omega), iI_toInt (show -2147483648 ≤ zhave g b a by omega) (by omega)]
      refine ⟨fun h3 => ?_, fun h3 => ?_⟩
      · exact ih hk1 (by simp only [zall, hp, Bool.true_and, Bool.and_eq_true, decide_eq_true_eq]; omega)
      · rw [no k hk1 (by omega)]
        exact ⟨rfl, trivial⟩
    · rw [no k hk1 (by omega)]
      exact ⟨rfl, trivial⟩
set_option maxRecDepth 20000 in
theorem x_rests (σ : qSg) {g n : Nat} (hg : g < 1000) (hn : n ≤ 20) : qFI 3 53 [qi (nI g), qi (nI n)] σ (nI (zcount (zrp g n) ((n + 1) * (n + 1)))) := by
  refine qCI.of [some (qi (nI g)), some (qi (nI n)), none, none, none] ok_53 (Nat.le_of_ble_eq_true rfl) rfl ?_
  refine qV.go 30 [4] ok_53 ?_
  simp only [qW_nop, qW_iconst, qW_iloadn, qW_iload, qW_istoren, qW_istore, qW_iinc, qW_ifeq, qW_icgt, qW_goto, qW_cs4_0, qW_iret0, Nat.reduceAdd, Nat.reduceMul, Nat.reduceBEq, Nat.reduceEqDiff, Nat.reduceLT, Nat.reduceLeDiff, Nat.zero_le, nI_add, nI_mul, nI_cl, qin_eq, qofI, qlg_0, qlg_s, qls_i0, qls_r0, qls_l0, qls_1, qls_2, qkl_i, qkl_r, qkl_l, qkl_n, qIsI_i, qIsL_l, qIsR_r, qint_i, qil_i, qil_r, qil_l, qf4_0, qf4_1, qf4_2, qf4_3, qf2_0, qf2_1, qcs_n, qcs_i, qcs_r, qcs_l, qst_n, qst_c, qJ_0, qJ_st, qJ_go, qfl_I, qfl_Z, qfl_L, qfl_R, qrI_i, qrL_l, qrV_v, qRcv_0, qRcv_s, eq_self, true_and, and_true, true_or, or_true, false_and, and_false, false_or, or_false, ite_true, if_true, if_false, Bool.true_or, Bool.false_or, Bool.or_false, beq_self_eq_true, Bool.false_eq_true, bX4_howManyRests_0, bX4_howManyRests_4, bX4_howManyRests_12, bX4_howManyRests_32, bX4_howManyRests_38, bX4_howManyRests_44, kX4_howManyRests_0, kX4_howManyRests_4, kX4_howManyRests_12, kX4_howManyRests_32, kX4_howManyRests_38, kX4_howManyRests_44]
  have hle : ∀ x, zcount (zrp g n) x ≤ x := fun x => zcount_le _ _
  have h441 : (n + 1) * (n + 1) ≤ 21 * 21 := Nat.mul_le_mul (by omega) (by omega)
  have key := qdown (n := n + 1) (P := fun a => ∀ l4 : Option qPV, qV 53 3 (.inl fun v σ' => v = nI (zcount (zrp g n) ((n + 1) * (n + 1))) ∧ σ' = σ) 4 [some (qi (nI g)), some (qi (nI n)), some (qi (nI (zcount (zrp g n) (a * (n + 1))))), some (qi (nI a)), l4] [] σ) (fun a ha ih => ?_)
  · have := key 0 (Nat.zero_le _) none
    rw [Nat.zero_mul] at this
    exact this
  · intro l4
    refine qV.go 30 [4, 12] ok_53 ?_
    simp only [qW_nop, qW_iconst, qW_iloadn, qW_iload, qW_istoren, qW_istore, qW_iinc, qW_ifeq, qW_icgt, qW_goto, qW_cs4_0, qW_iret0, Nat.reduceAdd, Nat.reduceMul, Nat.reduceBEq, Nat.reduceEqDiff, Nat.reduceLT, Nat.reduceLeDiff, Nat.zero_le, nI_add, nI_mul, nI_cl, qin_eq, qofI, qlg_0, qlg_s, qls_i0, qls_r0, qls_l0, qls_1, qls_2, qkl_i, qkl_r, qkl_l, qkl_n, qIsI_i, qIsL_l, qIsR_r, qint_i, qil_i, qil_r, qil_l, qf4_0, qf4_1, qf4_2, qf4_3, qf2_0, qf2_1, qcs_n, qcs_i, qcs_r, qcs_l, qst_n, qst_c, qJ_0, qJ_st, qJ_go, qfl_I, qfl_Z, qfl_L, qfl_R, qrI_i, qrL_l, qrV_v, qRcv_0, qRcv_s, eq_self, true_and, and_true, true_or, or_true, false_and, and_false, false_or, or_false, ite_true, if_true, if_false, Bool.true_or, Bool.false_or, Bool.or_false, beq_self_eq_true, Bool.false_eq_true, bX4_howManyRests_0, bX4_howManyRests_4, bX4_howManyRests_12, bX4_howManyRests_32, bX4_howManyRests_38, bX4_howManyRests_44, kX4_howManyRests_0, kX4_howManyRests_4, kX4_howManyRests_12, kX4_howManyRests_32, kX4_howManyRests_38, kX4_howManyRests_44]
    simp (disch := omega) only [nI_leI, nI_ltI, nI_eq, nI_cl, qin_eq, nI_add, nI_mul, qb_z, qb_t, qb_f, nI_ne0', Nat.reduceAdd, Bool.false_eq_true, if_false, if_true, true_and, and_true, Nat.reduceEqDiff, not_true_eq_false, not_false_eq_true, false_implies, true_implies, ite_true, ite_false]
    refine ⟨fun h1 => ?_, fun h1 => ?_⟩
    · have : a = n + 1 := by omega
      subst this
      rfl
    · have ha1 : a < n + 1 := by omega
      have key2 := qdown (n := n + 1) (P := fun b => qV 53 3 (.inl fun v σ' => v = nI (zcount (zrp g n) ((n + 1) * (n + 1))) ∧ σ' = σ) 12 [some (qi (nI g)), some (qi (nI n)), some (qi (nI (zcount (zrp g n) (a * (n + 1) + b)))), some (qi (nI a)), some (qi (nI b))] [] σ) (fun b hb ih2 => ?_)
      · exact key2 0 (Nat.zero_le _)
      · refine qV.go 30 [4, 12, 32] ok_53 ?_
        simp only [qW_nop, qW_iconst, qW_iloadn, qW_iload, qW_istoren, qW_istore, qW_iinc, qW_ifeq, qW_icgt, qW_goto, qW_cs4_0, qW_iret0, Nat.reduceAdd, Nat.reduceMul, Nat.reduceBEq, Nat.reduceEqDiff, Nat.reduceLT, Nat.reduceLeDiff, Nat.zero_le, nI_add, nI_mul, nI_cl, qin_eq, qofI, qlg_0, qlg_s, qls_i0, qls_r0, qls_l0, qls_1, qls_2, qkl_i, qkl_r, qkl_l, qkl_n, qIsI_i, qIsL_l, qIsR_r, qint_i, qil_i, qil_r, qil_l, qf4_0, qf4_1, qf4_2, qf4_3, qf2_0, qf2_1, qcs_n, qcs_i, qcs_r, qcs_l, qst_n, qst_c, qJ_0, qJ_st, qJ_go, qfl_I, qfl_Z, qfl_L, qfl_R, qrI_i, qrL_l, qrV_v, qRcv_0, qRcv_s, eq_self, true_and, and_true, true_or, or_true, false_and, and_false, false_or, or_false, ite_true, if_true, if_false, Bool.true_or, Bool.false_or, Bool.or_false, beq_self_eq_true, Bool.false_eq_true, bX4_howManyRests_0, bX4_howManyRests_4, bX4_howManyRests_12, bX4_howManyRests_32, bX4_howManyRests_38, bX4_howManyRests_44, kX4_howManyRests_0, kX4_howManyRests_4, kX4_howManyRests_12, kX4_howManyRests_32, kX4_howManyRests_38, kX4_howManyRests_44]
        have hs : (a + 1) * (n + 1) = a * (n + 1) + (n + 1) := by rw [Nat.add_mul, Nat.one_mul]
        have hle2 : (a + 1) * (n + 1) ≤ (n + 1) * (n + 1) := Nat.mul_le_mul_right _ ha1
        simp (disch := omega) only [nI_leI, nI_ltI, nI_eq, nI_cl, qin_eq, nI_add, nI_mul, qb_z, qb_t, qb_f, nI_ne0', Nat.reduceAdd, Bool.false_eq_true, if_false, if_true, true_and, and_true, Nat.reduceEqDiff, not_true_eq_false, not_false_eq_true, false_implies, true_implies, ite_true, ite_false]
        refine ⟨fun h2 => ?_, fun h2 => ?_⟩
        · have : b = n + 1 := by omega
          subst this
          have := ih ha1 (some (qi (nI (n + 1))))
          rw [hs] at this
          exact this
        · have hb1 : b < n + 1 := by omega
          refine qBI.fn (x_isRest σ hg (by omega) (by omega) (by omega)) (by decide) ?_
          have e : zrp g n (a * (n + 1) + b) = zrest g a b n := by
            unfold zrp
            rw [(zdm hb1).1, (zdm hb1).2]
          have ec : zcount (zrp g n) (a * (n + 1) + (b + 1)) = zcount (zrp g n) (a * (n + 1) + b) + (if zrest g a b n = true then 1 else 0) := by
            rw [show a * (n + 1) + (b + 1) = (a * (n + 1) + b) + 1 by omega, ← e]
            rfl
          have nx : ∀ v, v = nI (zcount (zrp g n) (a * (n + 1) + (b + 1))) → qV 53 3 (.inl fun v σ' => v = nI (zcount (zrp g n) ((n + 1) * (n + 1))) ∧ σ' = σ) 32 [some (qi (nI g)), some (qi (nI n)), some (qi v), some (qi (nI a)), some (qi (nI b))] [] σ := by
            intro v hv
            subst hv
            refine qV.go 30 [12] ok_53 ?_
            simp only [qW_nop, qW_iconst, qW_iloadn, qW_iload, qW_istoren, qW_istore, qW_iinc, qW_ifeq, qW_icgt, qW_goto, qW_cs4_0, qW_iret0, Nat.reduceAdd, Nat.reduceMul, Nat.reduceBEq, Nat.reduceEqDiff, Nat.reduceLT, Nat.reduceLeDiff, Nat.zero_le, nI_add, nI_mul, nI_cl, qin_eq, qofI, qlg_0, qlg_s, qls_i0, qls_r0, qls_l0, qls_1, qls_2, qkl_i, qkl_r, qkl_l, qkl_n, qIsI_i, qIsL_l, qIsR_r, qint_i, qil_i, qil_r, qil_l, qf4_0, qf4_1, qf4_2, qf4_3, qf2_0, qf2_1, qcs_n, qcs_i, qcs_r, qcs_l, qst_n, qst_c, qJ_0, qJ_st, qJ_go, qfl_I, qfl_Z, qfl_L, qfl_R, qrI_i, qrL_l, qrV_v, qRcv_0, qRcv_s, eq_self, true_and, and_true, true_or, or_true, false_and, and_false, false_or, or_false, ite_true, if_true, if_false, Bool.true_or, Bool.false_or, Bool.or_false, beq_self_eq_true, Bool.false_eq_true, bX4_howManyRests_0, bX4_howManyRests_4, bX4_howManyRests_12, bX4_howManyRests_32, bX4_howManyRests_38, bX4_howManyRests_44, kX4_howManyRests_0, kX4_howManyRests_4, kX4_howManyRests_12, kX4_howManyRests_32, kX4_howManyRests_38, kX4_howManyRests_44]
            exact ih2 hb1
          rw [ec] at nx
          simp (disch := omega) only [nI_leI, nI_ltI, nI_eq, nI_cl, qin_eq, nI_add, nI_mul, qb_z, qb_t, qb_f, nI_ne0', Nat.reduceAdd, Bool.false_eq_true, if_false, if_true, true_and, and_true, Nat.reduceEqDiff, not_true_eq_false, not_false_eq_true, false_implies, true_implies, ite_true, ite_false]
          refine ⟨fun h3 => nx _ (by rw [if_neg (by rw [h3]; decide)]; rfl), fun h3 => ?_⟩
          have h3 : zrest g a b n = true := by simpa using h3
          exact nx _ (by rw [if_pos h3])
set_option maxRecDepth 20000 in
theorem x_restOf (σ : qSg) {g n k : Nat} (hg : g < 1000) (hn : n ≤ 20) (hk : k < 2147483648) : qFI 3 54 [qi (nI g), qi (nI n), qi (nI k)] σ (match zseek (zrp g n) ((n + 1) * (n + 1)) 0 k with | some i => nI i | none => iI (-1)) := by
  refine qCI.of [some (qi (nI g)), some (qi (nI n)), some (qi (nI k)), none, none, none] ok_54 (Nat.le_of_ble_eq_true rfl) rfl ?_
  refine qV.go 30 [5] ok_54 ?_
  simp only [qW_nop, qW_iconst, qW_iconstm, qW_iloadn, qW_iload, qW_istoren, qW_istore, qW_iinc, qW_iadd, qW_imul, qW_ifeq, qW_icne, qW_icgt, qW_goto, qW_cs4_0, qW_iret0, Nat.reduceAdd, Nat.reduceMul, Nat.reduceBEq, Nat.reduceEqDiff, Nat.reduceLT, Nat.reduceLeDiff, Nat.zero_le, nI_add, nI_mul, nI_cl, qin_eq, qofI, qlg_0, qlg_s, qls_i0, qls_r0, qls_l0, qls_1, qls_2, qkl_i, qkl_r, qkl_l, qkl_n, qIsI_i, qIsL_l, qIsR_r, qint_i, qil_i, qil_r, qil_l, qf4_0, qf4_1, qf4_2, qf4_3, qf2_0, qf2_1, qcs_n, qcs_i, qcs_r, qcs_l, qst_n, qst_c, qJ_0, qJ_st, qJ_go, qfl_I, qfl_Z, qfl_L, qfl_R, qrI_i, qrL_l, qrV_v, qRcv_0, qRcv_s, eq_self, true_and, and_true, true_or, or_true, false_and, and_false, false_or, or_false, ite_true, if_true, if_false, Bool.true_or, Bool.false_or, Bool.or_false, beq_self_eq_true, Bool.false_eq_true, bX4_restOf_0, bX4_restOf_5, bX4_restOf_14, bX4_restOf_47, bX4_restOf_50, bX4_restOf_56, bX4_restOf_62, kX4_restOf_0, kX4_restOf_5, kX4_restOf_14, kX4_restOf_47, kX4_restOf_50, kX4_restOf_56, kX4_restOf_62]
  have key := qdown (n := n + 1) (P := fun a => ∀ (l : Nat) (l5 : Option qPV), l ≤ k → zseek (zrp g n) ((n + 1) * (n + 1) - a * (n + 1)) (a * (n + 1)) (k - l) = zseek (zrp g n) ((n + 1) * (n + 1)) 0 k →
    qV 54 3 (.inl fun r σ' => (r = (match zseek (zrp g n) ((n + 1) * (n + 1)) 0 k with | some i => nI i | none => iI (-1))) ∧ σ' = σ) 5 [some (qi (nI g)), some (qi (nI n)), some (qi (nI k)), some (qi (nI l)), some (qi (nI a)), l5] [] σ) (fun a ha ih => ?_)
  · exact key 0 (Nat.zero_le _) 0 none (Nat.zero_le _) (by rw [Nat.zero_mul, Nat.sub_zero, Nat.sub_zero])
  · intro l l5 hl he
    refine qV.go 30 [5, 14] ok_54 ?_
    simp only [qW_nop, qW_iconst, qW_iconstm, qW_iloadn, qW_iload, qW_istoren, qW_istore, qW_iinc, qW_iadd, qW_imul, qW_ifeq, qW_icne, qW_icgt, qW_goto, qW_cs4_0, qW_iret0, Nat.reduceAdd, Nat.reduceMul, Nat.reduceBEq, Nat.reduceEqDiff, Nat.reduceLT, Nat.reduceLeDiff, Nat.zero_le, nI_add, nI_mul, nI_cl, qin_eq, qofI, qlg_0, qlg_s, qls_i0, qls_r0, qls_l0, qls_1, qls_2, qkl_i, qkl_r, qkl_l, qkl_n, qIsI_i, qIsL_l, qIsR_r, qint_i, qil_i, qil_r, qil_l, qf4_0, qf4_1, qf4_2, qf4_3, qf2_0, qf2_1, qcs_n, qcs_i, qcs_r, qcs_l, qst_n, qst_c, qJ_0, qJ_st, qJ_go, qfl_I, qfl_Z, qfl_L, qfl_R, qrI_i, qrL_l, qrV_v, qRcv_0, qRcv_s, eq_self, true_and, and_true, true_or, or_true, false_and, and_false, false_or, or_false, ite_true, if_true, if_false, Bool.true_or, Bool.false_or, Bool.or_false, beq_self_eq_true, Bool.false_eq_true, bX4_restOf_0, bX4_restOf_5, bX4_restOf_14, bX4_restOf_47, bX4_restOf_50, bX4_restOf_56, bX4_restOf_62, kX4_restOf_0, kX4_restOf_5, kX4_restOf_14, kX4_restOf_47, kX4_restOf_50, kX4_restOf_56, kX4_restOf_62]
    simp (disch := omega) only [nI_leI, nI_ltI, nI_eq, nI_cl, qin_eq, nI_add, nI_mul, qb_z, qb_t, qb_f, nI_ne0', Nat.reduceAdd, Bool.false_eq_true, if_false, if_true, true_and, and_true, Nat.reduceEqDiff, not_true_eq_false, not_false_eq_true, false_implies, true_implies, ite_true, ite_false]
    refine ⟨fun h1 => ?_, fun h1 => ?_⟩
    · have e : a = n + 1 := by omega
      subst e
      rw [Nat.sub_self] at he
      rw [← he]
      rfl
    · have ha1 : a < n + 1 := by omega
      have h441 : (n + 1) * (n + 1) ≤ 21 * 21 := Nat.mul_le_mul (by omega) (by omega)
      have hsz : a * (n + 1) + (n + 1) ≤ (n + 1) * (n + 1) := by
        have := Nat.mul_le_mul_right (n + 1) (show a + 1 ≤ n + 1 by omega)
        rw [Nat.add_mul, Nat.one_mul] at this
        exact this
      have key2 := qdown (n := n + 1) (P := fun b => ∀ l, l ≤ k → zseek (zrp g n) ((n + 1) * (n + 1) - (a * (n + 1) + b)) (a * (n + 1) + b) (k - l) = zseek (zrp g n) ((n + 1) * (n + 1)) 0 k →
        qV 54 3 (.inl fun r σ' => (r = (match zseek (zrp g n) ((n + 1) * (n + 1)) 0 k with | some i => nI i | none => iI (-1))) ∧ σ' = σ) 14 [some (qi (nI g)), some (qi (nI n)), some (qi (nI k)), some (qi (nI l)), some (qi (nI a)), some (qi (nI b))] [] σ) (fun b hb ih2 => ?_)
      · exact key2 0 (Nat.zero_le _) l hl (by rw [Nat.add_zero]; exact he)
      · intro l hl he
        refine qV.go 30 [5, 14] ok_54 ?_
        simp only [qW_nop, qW_iconst, qW_iconstm, qW_iloadn, qW_iload, qW_istoren, qW_istore, qW_iinc, qW_iadd, qW_imul, qW_ifeq, qW_icne, qW_icgt, qW_goto, qW_cs4_0, qW_iret0, Nat.reduceAdd, Nat.reduceMul, Nat.reduceBEq, Nat.reduceEqDiff, Nat.reduceLT, Nat.reduceLeDiff, Nat.zero_le, nI_add, nI_mul, nI_cl, qin_eq, qofI, qlg_0, qlg_s, qls_i0, qls_r0, qls_l0, qls_1, qls_2, qkl_i, qkl_r, qkl_l, qkl_n, qIsI_i, qIsL_l, qIsR_r, qint_i, qil_i, qil_r, qil_l, qf4_0, qf4_1, qf4_2, qf4_3, qf2_0, qf2_1, qcs_n, qcs_i, qcs_r, qcs_l, qst_n, qst_c, qJ_0, qJ_st, qJ_go, qfl_I, qfl_Z, qfl_L, qfl_R, qrI_i, qrL_l, qrV_v, qRcv_0, qRcv_s, eq_self, true_and, and_true, true_or, or_true, false_and, and_false, false_or, or_false, ite_true, if_true, if_false, Bool.true_or, Bool.false_or, Bool.or_false, beq_self_eq_true, Bool.false_eq_true, bX4_restOf_0, bX4_restOf_5, bX4_restOf_14, bX4_restOf_47, bX4_restOf_50, bX4_restOf_56, bX4_restOf_62, kX4_restOf_0, kX4_restOf_5, kX4_restOf_14, kX4_restOf_47, kX4_restOf_50, kX4_restOf_56, kX4_restOf_62]
        simp (disch := omega) only [nI_leI, nI_ltI, nI_eq, nI_cl, qin_eq, nI_add, nI_mul, qb_z, qb_t, qb_f, nI_ne0', Nat.reduceAdd, Bool.false_eq_true, if_false, if_true, true_and, and_true, Nat.reduceEqDiff, not_true_eq_false, not_false_eq_true, false_implies, true_implies, ite_true, ite_false]
        refine ⟨fun h2 => ?_, fun h2 => ?_⟩
        · have e : b = n + 1 := by omega
          subst e
          refine ih ha1 l _ hl ?_
          rw [← he, show (a + 1) * (n + 1) = a * (n + 1) + (n + 1) by rw [Nat.add_mul, Nat.one_mul]]
        · have hb1 : b < n + 1 := by omega
          have dm := zdm (a := a) hb1
          refine qBI.fn (x_isRest σ hg (by omega) (by omega) (by omega)) (by decide) ?_
          have hf : (n + 1) * (n + 1) - (a * (n + 1) + b) = ((n + 1) * (n + 1) - (a * (n + 1) + (b + 1))) + 1 := by omega
          have ep : zrp g n (a * (n + 1) + b) = zrest g a b n := by unfold zrp; rw [dm.1, dm.2]
          rw [hf] at he
          simp only [zseek, ep] at he
          simp (disch := omega) only [nI_leI, nI_ltI, nI_eq, nI_cl, qin_eq, nI_add, nI_mul, qb_z, qb_t, qb_f, nI_ne0', Nat.reduceAdd, Bool.false_eq_true, if_false, if_true, true_and, and_true, Nat.reduceEqDiff, not_true_eq_false, not_false_eq_true, false_implies, true_implies, ite_true, ite_false]
          refine ⟨fun h3 => ?_, fun h3 => ?_⟩
          · rw [if_neg (by rw [h3]; decide)] at he
            exact ih2 hb1 l hl (by rw [← Nat.add_assoc]; exact he)
          · rw [if_pos (by simpa using h3)] at he
            refine ⟨fun h4 => ?_, fun h4 => ?_⟩
            · rw [if_neg (by omega)] at he
              exact ih2 hb1 (l + 1) (by omega) (by rw [← Nat.add_assoc, show k - (l + 1) = k - l - 1 by omega]; exact he)
            · rw [if_pos (by omega)] at he
              rw [← he]
