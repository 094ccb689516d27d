/-! the class: a common divisor -/
set_option maxRecDepth 20000 in
theorem x_gcd (σ : qSg) {n d : Nat} (hn : n < 9223372036854775808) (hd : d < 9223372036854775808) : qCL 1 61 [ql (lN n), ql (lN d)] σ (fun v σ' => v = lN (Nat.gcd n d) ∧ σ' = σ) := by
  refine qCL.of [some (ql (lN n)), none, some (ql (lN d)), none, none, none, none, none, none, none, none] ok_61 (Nat.le_of_ble_eq_true rfl) rfl ?_
  refine qV.go 30 [9] ok_61 ?_
  simp only [qW_nop, qW_iconst, qW_sipush, qW_lconst, qW_iload, qW_lloadn, qW_lload, qW_istore, qW_lstore, qW_iinc, qW_lrem, qW_lcmp, qW_ifeq, qW_icge, qW_goto, qW_lret, Nat.reduceAdd, Nat.reduceMul, Nat.reduceBEq, Nat.reduceEqDiff, Nat.reduceLT, Nat.reduceLeDiff, Nat.zero_le, nI_add, nI_mul, nI_cl, qin_eq, qofI, qlg_0, qlg_s, qls_i0, qls_r0, qls_l0, qls_1, qls_2, qkl_i, qkl_r, qkl_l, qkl_n, qIsI_i, qIsL_l, qIsR_r, qint_i, qil_i, qil_r, qil_l, qf4_0, qf4_1, qf4_2, qf4_3, qf2_0, qf2_1, qcs_n, qcs_i, qcs_r, qcs_l, qst_n, qst_c, qJ_0, qJ_st, qJ_go, qfl_I, qfl_Z, qfl_L, qfl_R, qrI_i, qrL_l, qrV_v, qRcv_0, qRcv_s, eq_self, true_and, and_true, true_or, or_true, false_and, and_false, false_or, or_false, ite_true, if_true, if_false, Bool.true_or, Bool.false_or, Bool.or_false, beq_self_eq_true, Bool.false_eq_true, bX4_commonDivisor_0, bX4_commonDivisor_9, bX4_commonDivisor_45, kX4_commonDivisor_0, kX4_commonDivisor_9, kX4_commonDivisor_45]
  have done : ∀ i a (l9 l10 : Option qPV), Nat.gcd a 0 = Nat.gcd n d → qV 61 1 (.inr (.inl fun v σ' => v = lN (Nat.gcd n d) ∧ σ' = σ)) 9 [some (ql (lN n)), none, some (ql (lN d)), none, some (ql (lN a)), none, some (ql (lN 0)), none, some (qi (nI i)), l9, l10] [] σ := by
    intro i a l9 l10 hg
    rw [Nat.gcd_zero_right] at hg
    subst hg
    refine qV.go 30 [9, 45] ok_61 ?_
    simp only [qW_nop, qW_iconst, qW_sipush, qW_lconst, qW_iload, qW_lloadn, qW_lload, qW_istore, qW_lstore, qW_iinc, qW_lrem, qW_lcmp, qW_ifeq, qW_icge, qW_goto, qW_lret, Nat.reduceAdd, Nat.reduceMul, Nat.reduceBEq, Nat.reduceEqDiff, Nat.reduceLT, Nat.reduceLeDiff, Nat.zero_le, nI_add, nI_mul, nI_cl, qin_eq, qofI, qlg_0, qlg_s, qls_i0, qls_r0, qls_l0, qls_1, qls_2, qkl_i, qkl_r, qkl_l, qkl_n, qIsI_i, qIsL_l, qIsR_r, qint_i, qil_i, qil_r, qil_l, qf4_0, qf4_1, qf4_2, qf4_3, qf2_0, qf2_1, qcs_n, qcs_i, qcs_r, qcs_l, qst_n, qst_c, qJ_0, qJ_st, qJ_go, qfl_I, qfl_Z, qfl_L, qfl_R, qrI_i, qrL_l, qrV_v, qRcv_0, qRcv_s, eq_self, true_and, and_true, true_or, or_true, false_and, and_false, false_or, or_false, ite_true, if_true, if_false, Bool.true_or, Bool.false_or, Bool.or_false, beq_self_eq_true, Bool.false_eq_true, bX4_commonDivisor_0, bX4_commonDivisor_9, bX4_commonDivisor_45, kX4_commonDivisor_0, kX4_commonDivisor_9, kX4_commonDivisor_45]
    have e0 : lg_cmp (lN 0) (lN 0) = 0 := by decide
    have fin : qV 61 1 (.inr (.inl fun v σ' => v = lN (Nat.gcd n d) ∧ σ' = σ)) 45 [some (ql (lN n)), none, some (ql (lN d)), none, some (ql (lN (Nat.gcd n d))), none, some (ql (lN 0)), none, some (qi (nI i)), l9, l10] [] σ := by
      refine qV.go 30 [9999] ok_61 ?_
      simp only [qW_nop, qW_iconst, qW_sipush, qW_lconst, qW_iload, qW_lloadn, qW_lload, qW_istore, qW_lstore, qW_iinc, qW_lrem, qW_lcmp, qW_ifeq, qW_icge, qW_goto, qW_lret, Nat.reduceAdd, Nat.reduceMul, Nat.reduceBEq, Nat.reduceEqDiff, Nat.reduceLT, Nat.reduceLeDiff, Nat.zero_le, nI_add, nI_mul, nI_cl, qin_eq, qofI, qlg_0, qlg_s, qls_i0, qls_r0, qls_l0, qls_1, qls_2, qkl_i, qkl_r, qkl_l, qkl_n, qIsI_i, qIsL_l, qIsR_r, qint_i, qil_i, qil_r, qil_l, qf4_0, qf4_1, qf4_2, qf4_3, qf2_0, qf2_1, qcs_n, qcs_i, qcs_r, qcs_l, qst_n, qst_c, qJ_0, qJ_st, qJ_go, qfl_I, qfl_Z, qfl_L, qfl_R, qrI_i, qrL_l, qrV_v, qRcv_0, qRcv_s, eq_self, true_and, and_true, true_or, or_true, false_and, and_false, false_or, or_false, ite_true, if_true, if_false, Bool.true_or, Bool.false_or, Bool.or_false, beq_self_eq_true, Bool.false_eq_true, bX4_commonDivisor_0, bX4_commonDivisor_9, bX4_commonDivisor_45, kX4_commonDivisor_0, kX4_commonDivisor_9, kX4_commonDivisor_45]
    rw [e0]
    simp (disch := omega) only [nI_leI, nI_ltI, nI_eq, nI_cl, qin_eq, nI_add, nI_mul, qb_z, qb_t, qb_f, nI_ne0', Nat.reduceAdd, Bool.false_eq_true, if_false, if_true, true_and, and_true, Nat.reduceEqDiff, not_true_eq_false, not_false_eq_true, false_implies, true_implies, ite_true, ite_false]
    exact ⟨fun _ => fin, fun _ => fin⟩
  have key : ∀ m i, i + 2 * m ≤ 200 → ∀ a b (l9 l10 : Option qPV), a < 9223372036854775808 → b < 9223372036854775808 → b < 2 ^ m → Nat.gcd a b = Nat.gcd n d → qV 61 1 (.inr (.inl fun v σ' => v = lN (Nat.gcd n d) ∧ σ' = σ)) 9 [some (ql (lN n)), none, some (ql (lN d)), none, some (ql (lN a)), none, some (ql (lN b)), none, some (qi (nI i)), l9, l10] [] σ := by
    intro m
    induction m with
    | zero =>
      intro i hi a b l9 l10 ha hb hm hg
      have : b = 0 := by simpa using hm
      subst this
      exact done i a l9 l10 hg
    | succ m ih =>
      intro i hi a b l9 l10 ha hb hm hg
      by_cases hb0 : b = 0
      · subst hb0
        exact done i a l9 l10 hg
      · have step : ∀ i a b (l9 l10 : Option qPV), i < 200 → a < 9223372036854775808 → b < 9223372036854775808 → 0 < b → (∀ l10, qV 61 1 (.inr (.inl fun v σ' => v = lN (Nat.gcd n d) ∧ σ' = σ)) 9 [some (ql (lN n)), none, some (ql (lN d)), none, some (ql (lN b)), none, some (ql (lN (a % b))), none, some (qi (nI (i + 1))), some (ql (lN (a % b))), l10] [] σ) → qV 61 1 (.inr (.inl fun v σ' => v = lN (Nat.gcd n d) ∧ σ' = σ)) 9 [some (ql (lN n)), none, some (ql (lN d)), none, some (ql (lN a)), none, some (ql (lN b)), none, some (qi (nI i)), l9, l10] [] σ := by
          intro i a b l9 l10 hi ha hb hb0 hk
          refine qV.go 30 [9, 45] ok_61 ?_
          simp only [qW_nop, qW_iconst, qW_sipush, qW_lconst, qW_iload, qW_lloadn, qW_lload, qW_istore, qW_lstore, qW_iinc, qW_lrem, qW_lcmp, qW_ifeq, qW_icge, qW_goto, qW_lret, Nat.reduceAdd, Nat.reduceMul, Nat.reduceBEq, Nat.reduceEqDiff, Nat.reduceLT, Nat.reduceLeDiff, Nat.zero_le, nI_add, nI_mul, nI_cl, qin_eq, qofI, qlg_0, qlg_s, qls_i0, qls_r0, qls_l0, qls_1, qls_2, qkl_i, qkl_r, qkl_l, qkl_n, qIsI_i, qIsL_l, qIsR_r, qint_i, qil_i, qil_r, qil_l, qf4_0, qf4_1, qf4_2, qf4_3, qf2_0, qf2_1, qcs_n, qcs_i, qcs_r, qcs_l, qst_n, qst_c, qJ_0, qJ_st, qJ_go, qfl_I, qfl_Z, qfl_L, qfl_R, qrI_i, qrL_l, qrV_v, qRcv_0, qRcv_s, eq_self, true_and, and_true, true_or, or_true, false_and, and_false, false_or, or_false, ite_true, if_true, if_false, Bool.true_or, Bool.false_or, Bool.or_false, beq_self_eq_true, Bool.false_eq_true, bX4_commonDivisor_0, bX4_commonDivisor_9, bX4_commonDivisor_45, kX4_commonDivisor_0, kX4_commonDivisor_9, kX4_commonDivisor_45]
          simp (disch := omega) only [nI_leI, nI_ltI, nI_eq, nI_cl, qin_eq, nI_add, nI_mul, qb_z, qb_t, qb_f, nI_ne0', Nat.reduceAdd, Bool.false_eq_true, if_false, if_true, true_and, and_true, Nat.reduceEqDiff, not_true_eq_false, not_false_eq_true, false_implies, true_implies, ite_true, ite_false]
          rw [qlcmp0, lN_t' hb, lN_t' (by omega)]
          refine ⟨fun hh => by omega, fun _ => ⟨fun hh => by omega, fun _ => ⟨lN_ne0 hb hb0, ?_⟩⟩⟩
          rw [lN_rem ha hb hb0]
          exact hk none
        have g1 : ∀ a b, Nat.gcd a b = Nat.gcd n d → Nat.gcd b (a % b) = Nat.gcd n d := fun a b hg => by rw [← hg, Nat.gcd_comm b, ← Nat.gcd_rec, Nat.gcd_comm]
        have r1 := Nat.mod_lt a (show b > 0 by omega)
        refine step i a b l9 l10 (by omega) ha hb (by omega) (fun l10' => ?_)
        by_cases h1 : a % b = 0
        · have := g1 a b hg
          rw [h1] at this ⊢
          exact done _ _ _ _ this
        · refine step (i + 1) b (a % b) _ _ (by omega) hb (by omega) (by omega) (fun l => ?_)
          have r2 := Nat.mod_lt b (show a % b > 0 by omega)
          have r3 : 2 * (b % (a % b)) < b := by
            have h5 := Nat.div_add_mod b (a % b)
            have h6 : 1 ≤ b / (a % b) := (Nat.one_le_div_iff (by omega)).mpr (by omega)
            have h7 : (a % b) * 1 ≤ (a % b) * (b / (a % b)) := Nat.mul_le_mul_left _ h6
            omega
          exact ih (i + 1 + 1) (by omega) _ _ _ _ (by omega) (by omega) (by rw [Nat.pow_succ] at hm; omega) (g1 _ _ (g1 _ _ hg))
  exact key 70 0 (by omega) n d none none hn hd (Nat.lt_of_lt_of_le hd (by decide)) rfl
