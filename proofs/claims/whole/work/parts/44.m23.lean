theorem zwp_0 {T : zT} {t p : Int32} (h0 : zwp T t p = 0) : ∃ k n i, k < 4 ∧ T.2.1 k = some n ∧ i < n ∧ t = nI k ∧ p = nI i := by
  unfold zwp at h0
  split at h0
  · omega
  · next ht =>
    obtain ⟨k, hk, rfl⟩ := zrg_nI (x := t) (n := 4) (by simpa using ht)
    rw [nI_t (by omega), Int.toNat_natCast] at h0
    cases en : T.2.1 k with
    | none => rw [en] at h0; simp at h0
    | some n =>
      rw [en] at h0
      by_cases hp : zrg p n = true
      · obtain ⟨i, hi, rfl⟩ := zrg_nI hp
        exact ⟨k, n, i, hk, en, hi, rfl, rfl⟩
      · simp [hp] at h0
theorem zwp_lt (T : zT) (t p : Int32) : zwp T t p < 4 := by
  unfold zwp
  split
  · decide
  · split
    · decide
    · split <;> decide
set_option maxRecDepth 20000 in
theorem m_read {σ : qSg} {T : zT} (h : zMT σ T) (hT : zTW T) (t p : Int32) : qCL 3 223 [qr 139, qi t, qi p] σ (fun r σ' => r = (if zwp T t p = 0 then T.2.2 t.toInt.toNat p.toInt.toNat else -(lN 1)) ∧ σ' = qwi σ 139 2 (nI (zwp T t p))) := by
  refine qCL.of [some (qr 139), some (qi t), some (qi p)] ok_223 (Nat.le_of_ble_eq_true rfl) rfl ?_
  refine qV.go 30 [9999] ok_223 ?_
  simp only [qW_nop, qW_bipush, qW_ldc2m, qW_iloadn, qW_aloadn, qW_iadd, qW_imul, qW_ifle, qW_goto, qW_getf, qW_lald, qW_lret, qW_cv3_0, qW_putf0, Nat.reduceAdd, Nat.reduceMul, Nat.reduceBEq, Nat.reduceEqDiff, Nat.reduceLT, Nat.reduceLeDiff, Nat.zero_le, nI_add, nI_mul, nI_cl, qin_eq, qofI, qlg_0, qlg_s, qls_i0, qls_r0, qls_l0, qls_1, qls_2, qkl_i, qkl_r, qkl_l, qkl_n, qIsI_i, qIsL_l, qIsR_r, qint_i, qil_i, qil_r, qil_l, qf4_0, qf4_1, qf4_2, qf4_3, qf2_0, qf2_1, qcs_n, qcs_i, qcs_r, qcs_l, qst_n, qst_c, qJ_0, qJ_st, qJ_go, qfl_I, qfl_Z, qfl_L, qfl_R, qrI_i, qrL_l, qrV_v, qRcv_0, qRcv_s, eq_self, true_and, and_true, true_or, or_true, false_and, and_false, false_or, or_false, ite_true, if_true, if_false, Bool.true_or, Bool.false_or, Bool.or_false, beq_self_eq_true, Bool.false_eq_true, bX12_read_0, bX12_read_23, bX12_read_34, kX12_read_0, kX12_read_23, kX12_read_34, qK_139, qR_139_0, qK_140, qR_139_1, qK_141, qR_139_5, qK_142, qR_139_6, qK_143, qR_139_7, qK_144, qR_139_8, qK_145, qR_139_9, qK_146, qR_139_21, qK_147, qR_139_25, qK_148, qR_139_30, qK_149, qR_139_31, qK_150, qR_139_33, qK_151, qR_139_34, qK_152, qR_139_35, qK_153, qR_139_36, qK_154, qR_139_39, qK_155, qR_139_40, qK_156, qR_139_41, qK_157]
  refine qBI.fn (m_wrongPlace h hT t p) (by decide) ?_
  have hz := zwp_lt T t p
  rw [qwi_1, if_pos ⟨rfl, rfl⟩]
  rw [qle0, nI_t (by omega)]
  refine ⟨fun h1 => ?_, fun h1 => ⟨by rw [if_neg (by omega)], rfl⟩⟩
  have h0 : zwp T t p = 0 := by omega
  rw [if_pos h0]
  obtain ⟨k, n, i, hk, en, hi, rfl, rfl⟩ := zwp_0 h0
  have hn := (hT k hk).2 n en
  obtain ⟨g1, g2, g3⟩ := h k hk
  simp only [nI_mul, nI_add, nI_c (show 60 * k + i < 2147483648 by omega), nI_t (show k < 2147483648 by omega), nI_t (show i < 2147483648 by omega), Int.toNat_natCast]
  exact ⟨qin_n (by omega) (by decide), g3 n i en hi, trivial⟩
