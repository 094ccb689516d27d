/-! the reference: fractions -/
theorem lN_t' {n : Nat} (h : n < 9223372036854775808) : (lN n).toInt = n := lg_ofNat_toInt (by omega)
theorem lN_div {a b : Nat} (ha : a < 9223372036854775808) (hb : b < 9223372036854775808) (h0 : 0 < b) : lN a / lN b = lN (a / b) := by
  have h2 : a / b ≤ a := Nat.div_le_self a b
  apply Int64.toInt_inj.mp
  rw [Int64.toInt_div_of_ne_right, lN_t' ha, lN_t' hb, lN_t' (by omega)]
  · exact Int.ofNat_tdiv a b
  · intro h
    have h := congrArg Int64.toInt h
    rw [lN_t' hb] at h
    have : (-1 : Int64).toInt = -1 := by decide
    omega
theorem lN_rem {a b : Nat} (ha : a < 9223372036854775808) (hb : b < 9223372036854775808) (h0 : 0 < b) : lN a - lN a / lN b * lN b = lN (a % b) := by
  rw [lN_div ha hb h0, lN_mul, lN_sub (Nat.div_mul_le_self a b)]
  congr 1
  have := Nat.div_add_mod a b
  have h2 : b * (a / b) = a / b * b := Nat.mul_comm _ _
  omega
theorem lN_ne0 {b : Nat} (hb : b < 9223372036854775808) (h0 : 0 < b) : ¬ lN b = 0 := by
  intro h
  have h := congrArg Int64.toInt h
  rw [lN_t' hb] at h
  have : (0 : Int64).toInt = 0 := by decide
  omega
set_option maxRecDepth 20000 in
theorem m_is (σ : qSg) (k : Nat) (hk : k < 2147483648) : qCI 1 213 [qr 139, qi (nI k)] σ (fun r σ' => r = qb (decide (k = 0)) ∧ σ' = qwi σ 139 2 (nI k)) := by
  refine qCI.of [some (qr 139), some (qi (nI k))] ok_213 (Nat.le_of_ble_eq_true rfl) rfl ?_
  refine qV.go 30 [9999] ok_213 ?_
  simp only [qW_nop, qW_iconst, qW_iloadn, qW_aloadn, qW_ifne, qW_goto, qW_iret1, qW_putf0, Nat.reduceAdd, Nat.reduceMul, Nat.reduceBEq, Nat.reduceEqDiff, Nat.reduceLT, Nat.reduceLeDiff, Nat.zero_le, nI_add, nI_mul, nI_cl, qin_eq, qofI, qlg_0, qlg_s, qls_i0, qls_r0, qls_l0, qls_1, qls_2, qkl_i, qkl_r, qkl_l, qkl_n, qIsI_i, qIsL_l, qIsR_r, qint_i, qil_i, qil_r, qil_l, qf4_0, qf4_1, qf4_2, qf4_3, qf2_0, qf2_1, qcs_n, qcs_i, qcs_r, qcs_l, qst_n, qst_c, qJ_0, qJ_st, qJ_go, qfl_I, qfl_Z, qfl_L, qfl_R, qrI_i, qrL_l, qrV_v, qRcv_0, qRcv_s, eq_self, true_and, and_true, true_or, or_true, false_and, and_false, false_or, or_false, ite_true, if_true, if_false, Bool.true_or, Bool.false_or, Bool.or_false, beq_self_eq_true, Bool.false_eq_true, bX12_is_0, bX12_is_13, bX12_is_14, kX12_is_0, kX12_is_13, kX12_is_14, qK_139, qR_139_0, qK_140, qR_139_1, qK_141, qR_139_5, qK_142, qR_139_6, qK_143, qR_139_7, qK_144, qR_139_8, qK_145, qR_139_9, qK_146, qR_139_21, qK_147, qR_139_25, qK_148, qR_139_30, qK_149, qR_139_31, qK_150, qR_139_33, qK_151, qR_139_34, qK_152, qR_139_35, qK_153, qR_139_36, qK_154, qR_139_39, qK_155, qR_139_40, qK_156, qR_139_41, qK_157]
  simp (disch := omega) only [nI_leI, nI_ltI, nI_eq, nI_cl, qin_eq, nI_add, nI_mul, qb_z, qb_t, qb_f, nI_ne0', Nat.reduceAdd, Bool.false_eq_true, if_false, if_true, true_and, and_true, Nat.reduceEqDiff, not_true_eq_false, not_false_eq_true, false_implies, true_implies, ite_true, ite_false]
  exact ⟨fun h => by simp [h, qb, nI_0], fun h => by simp [h, qb, nI_1]⟩
def ztell (σ : qSg) (n d : Nat) : qSg := qwi (qwl (qwl σ 139 3 (lN (n / Nat.gcd n d))) 139 4 (lN (d / Nat.gcd n d))) 139 2 (nI 0)
set_option maxRecDepth 20000 in
theorem m_tellsBy (σ : qSg) {n d : Nat} (hn : n < 9223372036854775808) (hd : d < 9223372036854775808) (h0 : 0 < d) : qCI 2 217 [qr 139, ql (lN n), ql (lN d)] σ (fun r σ' => r = qb true ∧ σ' = ztell σ n d) := by
  refine qCI.of [some (qr 139), some (ql (lN n)), none, some (ql (lN d)), none, none, none, none, none, none, none] ok_217 (Nat.le_of_ble_eq_true rfl) rfl ?_
  refine qV.go 30 [6] ok_217 ?_
  simp only [qW_nop, qW_iconst, qW_lconst, qW_lloadn, qW_lload, qW_aloadn, qW_lstore, qW_ldiv, qW_lrem, qW_lcmp, qW_ifeq, qW_goto, qW_cv2_0, qW_iret1, qW_putf1, Nat.reduceAdd, Nat.reduceMul, Nat.reduceBEq, Nat.reduceEqDiff, Nat.reduceLT, Nat.reduceLeDiff, Nat.zero_le, nI_add, nI_mul, nI_cl, qin_eq, qofI, qlg_0, qlg_s, qls_i0, qls_r0, qls_l0, qls_1, qls_2, qkl_i, qkl_r, qkl_l, qkl_n, qIsI_i, qIsL_l, qIsR_r, qint_i, qil_i, qil_r, qil_l, qf4_0, qf4_1, qf4_2, qf4_3, qf2_0, qf2_1, qcs_n, qcs_i, qcs_r, qcs_l, qst_n, qst_c, qJ_0, qJ_st, qJ_go, qfl_I, qfl_Z, qfl_L, qfl_R, qrI_i, qrL_l, qrV_v, qRcv_0, qRcv_s, eq_self, true_and, and_true, true_or, or_true, false_and, and_false, false_or, or_false, ite_true, if_true, if_false, Bool.true_or, Bool.false_or, Bool.or_false, beq_self_eq_true, Bool.false_eq_true, bX12_tellsBy_0, bX12_tellsBy_6, bX12_tellsBy_31, kX12_tellsBy_0, kX12_tellsBy_6, kX12_tellsBy_31, qK_139, qR_139_0, qK_140, qR_139_1, qK_141, qR_139_5, qK_142, qR_139_6, qK_143, qR_139_7, qK_144, qR_139_8, qK_145, qR_139_9, qK_146, qR_139_21, qK_147, qR_139_25, qK_148, qR_139_30, qK_149, qR_139_31, qK_150, qR_139_33, qK_151, qR_139_34, qK_152, qR_139_35, qK_153, qR_139_36, qK_154, qR_139_39, qK_155, qR_139_40, qK_156, qR_139_41, qK_157]
  have key : ∀ b a (l9 l10 : Option qPV), a < 9223372036854775808 → b < 9223372036854775808 → Nat.gcd a b = Nat.gcd n d → qV 217 2 (.inl fun r σ' => r = qb true ∧ σ' = ztell σ n d) 6 [some (qr 139), some (ql (lN n)), none, some (ql (lN d)), none, some (ql (lN a)), none, some (ql (lN b)), none, l9, l10] [] σ := by
    intro b
    induction b using Nat.strongRecOn with
    | ind b ih =>
      intro a l9 l10 ha hb hg
      refine qV.go 30 [6] ok_217 ?_
      simp only [qW_nop, qW_iconst, qW_lconst, qW_lloadn, qW_lload, qW_aloadn, qW_lstore, qW_ldiv, qW_lrem, qW_lcmp, qW_ifeq, qW_goto, qW_cv2_0, qW_iret1, qW_putf1, Nat.reduceAdd, Nat.reduceMul, Nat.reduceBEq, Nat.reduceEqDiff, Nat.reduceLT, Nat.reduceLeDiff, Nat.zero_le, nI_add, nI_mul, nI_cl, qin_eq, qofI, qlg_0, qlg_s, qls_i0, qls_r0, qls_l0, qls_1, qls_2, qkl_i, qkl_r, qkl_l, qkl_n, qIsI_i, qIsL_l, qIsR_r, qint_i, qil_i, qil_r, qil_l, qf4_0, qf4_1, qf4_2, qf4_3, qf2_0, qf2_1, qcs_n, qcs_i, qcs_r, qcs_l, qst_n, qst_c, qJ_0, qJ_st, qJ_go, qfl_I, qfl_Z, qfl_L, qfl_R, qrI_i, qrL_l, qrV_v, qRcv_0, qRcv_s, eq_self, true_and, and_true, true_or, or_true, false_and, and_false, false_or, or_false, ite_true, if_true, if_false, Bool.true_or, Bool.false_or, Bool.or_false, beq_self_eq_true, Bool.false_eq_true, bX12_tellsBy_0, bX12_tellsBy_6, bX12_tellsBy_31, kX12_tellsBy_0, kX12_tellsBy_6, kX12_tellsBy_31, qK_139, qR_139_0, qK_140, qR_139_1, qK_141, qR_139_5, qK_142, qR_139_6, qK_143, qR_139_7, qK_144, qR_139_8, qK_145, qR_139_9, qK_146, qR_139_21, qK_147, qR_139_25, qK_148, qR_139_30, qK_149, qR_139_31, qK_150, qR_139_33, qK_151, qR_139_34, qK_152, qR_139_35, qK_153, qR_139_36, qK_154, qR_139_39, qK_155, qR_139_40, qK_156, qR_139_41, qK_157]
      have hg1 : 0 < Nat.gcd n d := Nat.gcd_pos_of_pos_right n h0
      have hg2 : Nat.gcd n d ≤ d := Nat.gcd_le_right n h0
      rw [qlcmp0, lN_t' hb, lN_t' (by decide)]
      refine ⟨fun h => ?_, fun h => ?_⟩
      · obtain rfl : b = 0 := by omega
        rw [Nat.gcd_zero_right] at hg
        subst hg
        refine ⟨lN_ne0 ha hg1, lN_ne0 ha hg1, qBI.of (m_is _ 0 (by decide)) (by decide) (fun r σ1 h1 => ?_)⟩
        obtain ⟨rfl, rfl⟩ := h1
        refine ⟨Or.inr rfl, rfl, ?_⟩
        rw [lN_div hn ha hg1, lN_div hd ha hg1]
        rfl
      · refine ⟨lN_ne0 hb (by omega), ?_⟩
        rw [lN_rem ha hb (by omega)]
        have hlt : a % b < b := Nat.mod_lt _ (by omega)
        refine ih (a % b) hlt b _ _ hb (by omega) ?_
        rw [← hg, Nat.gcd_comm b, ← Nat.gcd_rec, Nat.gcd_comm]
  exact key d n none none hn hd rfl
