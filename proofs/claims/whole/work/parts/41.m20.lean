/-! the reference: trays -/
/-- why a place is wrong -/
def zwp (T : zT) (t p : Int32) : Nat :=
  if zrg t 4 = false then 1
  else match T.2.1 t.toInt.toNat with
    | none => 2
    | some n => if zrg p n then 0 else 3
set_option maxRecDepth 20000 in
theorem m_wrongPlace {σ : qSg} {T : zT} (h : zMT σ T) (hT : zTW T) (t p : Int32) : qFI 2 221 [qr 139, qi t, qi p] σ (nI (zwp T t p)) := by
  refine qCI.of [some (qr 139), some (qi t), some (qi p)] ok_221 (Nat.le_of_ble_eq_true rfl) rfl ?_
  refine qV.go 30 [9999] ok_221 ?_
  simp only [qW_nop, qW_iconst, qW_iconstm, qW_iloadn, qW_aloadn, qW_ifne, qW_icne, qW_iflt, qW_iclt, qW_goto, qW_getf, qW_iald, qW_cs1_0, qW_iret0, Nat.reduceAdd, Nat.reduceMul, Nat.reduceBEq, Nat.reduceEqDiff, Nat.reduceLT, Nat.reduceLeDiff, Nat.zero_le, nI_add, nI_mul, nI_cl, qin_eq, qofI, qlg_0, qlg_s, qls_i0, qls_r0, qls_l0, qls_1, qls_2, qkl_i, qkl_r, qkl_l, qkl_n, qIsI_i, qIsL_l, qIsR_r, qint_i, qil_i, qil_r, qil_l, qf4_0, qf4_1, qf4_2, qf4_3, qf2_0, qf2_1, qcs_n, qcs_i, qcs_r, qcs_l, qst_n, qst_c, qJ_0, qJ_st, qJ_go, qfl_I, qfl_Z, qfl_L, qfl_R, qrI_i, qrL_l, qrV_v, qRcv_0, qRcv_s, eq_self, true_and, and_true, true_or, or_true, false_and, and_false, false_or, or_false, ite_true, if_true, if_false, Bool.true_or, Bool.false_or, Bool.or_false, beq_self_eq_true, Bool.false_eq_true, bX12_wrongPlace_0, bX12_wrongPlace_11, bX12_wrongPlace_25, bX12_wrongPlace_39, bX12_wrongPlace_43, bX12_wrongPlace_44, kX12_wrongPlace_0, kX12_wrongPlace_11, kX12_wrongPlace_25, kX12_wrongPlace_39, kX12_wrongPlace_43, kX12_wrongPlace_44, qK_139, qR_139_0, qK_140, qR_139_1, qK_141, qR_139_5, qK_142, qR_139_6, qK_143, qR_139_7, qK_144, qR_139_8, qK_145, qR_139_9, qK_146, qR_139_21, qK_147, qR_139_25, qK_148, qR_139_30, qK_149, qR_139_31, qK_150, qR_139_33, qK_151, qR_139_34, qK_152, qR_139_35, qK_153, qR_139_36, qK_154, qR_139_39, qK_155, qR_139_40, qK_156, qR_139_41, qK_157]
  refine qBI.fn (m_isTray σ t) (by decide) ?_
  unfold zwp
  cases et : zrg t 4 with
  | false =>
    refine ⟨fun h1 => absurd nI_0 h1, fun _ => ⟨rfl, rfl⟩⟩
  | true =>
    refine ⟨fun _ => ?_, fun h1 => absurd h1 (by decide)⟩
    obtain ⟨k, hk, rfl⟩ := zrg_nI et
    obtain ⟨h1, h2, h3⟩ := h k hk
    simp only [nI_c (show k < 2147483648 by omega), nI_t (show k < 2147483648 by omega), Int.toNat_natCast]
    rw [h2]
    cases ek : T.2.1 k with
    | none =>
      rw [if_neg (by decide)]
      refine ⟨qin_n (by omega) (by decide), fun h4 => absurd rfl h4, fun _ => ⟨rfl, trivial⟩⟩
    | some n =>
      have hn := (hT k hk).2 n ek
      rw [if_neg (by decide)]
      have hne : ¬ zoI (some n) = iI (-1) := by
        show ¬ nI n = iI (-1)
        rw [qeq, nI_t (by omega), iI_toInt (by decide) (by decide)]
        omega
      have ez : zrg p n = (decide (0 ≤ p.toInt) && decide (p.toInt < n)) := rfl
      refine ⟨qin_n (by omega) (by decide), fun _ => ⟨fun h5 => ⟨?_, trivial⟩, fun h5 => ⟨qin_n (by omega) (by decide), fun h6 => ⟨?_, trivial⟩, fun h6 => ⟨?_, trivial⟩⟩⟩, fun h4 => absurd h4 hne⟩
      · rw [qlt0] at h5
        show nI 3 = nI (if zrg p n = true then 0 else 3)
        rw [ez, decide_eq_false (by omega)]
        rfl
      · rw [qlt0] at h5
        have h6 : p < nI n := h6
        rw [qlt, nI_t (by omega)] at h6
        show nI 0 = nI (if zrg p n = true then 0 else 3)
        rw [ez, decide_eq_true (by omega), decide_eq_true (by omega)]
        rfl
      · have h6 : ¬ p < nI n := h6
        rw [qlt, nI_t (by omega)] at h6
        show nI 3 = nI (if zrg p n = true then 0 else 3)
        rw [ez, decide_eq_false (p := p.toInt < n) (by omega), Bool.and_false]
        rfl
set_option maxRecDepth 20000 in
theorem m_mark0 (σ : qSg) {m : Nat} (hm : σ.1 139 43 = nI m) (h3 : m ≤ 3) : qCI 2 366 [qr 139] σ (fun r σ' => if m = 3 then r = iI (-1) ∧ σ' = qwi σ 139 2 (nI 4) else
    r = nI (m + 1) ∧ σ' = qwi (zlm (zmv (qwi σ 139 43 (nI (m + 1))) 140 0 (456 * (m + 1)) 456) 141 0 (8 * (m + 1)) 8) 139 2 (nI 0)) := by
  refine qCI.of [some (qr 139)] ok_366 (Nat.le_of_ble_eq_true rfl) rfl ?_
  refine qV.go 30 [9999] ok_366 ?_
  simp only [qW_nop, qW_iconst, qW_aloadn, qW_iadd, qW_dup, qW_icne, qW_getf, qW_cv2_0, qW_cv3_2, qW_iret0, qW_putf0, Nat.reduceAdd, Nat.reduceMul, Nat.reduceBEq, Nat.reduceEqDiff, Nat.reduceLT, Nat.reduceLeDiff, Nat.zero_le, nI_add, nI_mul, nI_cl, qin_eq, qofI, qlg_0, qlg_s, qls_i0, qls_r0, qls_l0, qls_1, qls_2, qkl_i, qkl_r, qkl_l, qkl_n, qIsI_i, qIsL_l, qIsR_r, qint_i, qil_i, qil_r, qil_l, qf4_0, qf4_1, qf4_2, qf4_3, qf2_0, qf2_1, qcs_n, qcs_i, qcs_r, qcs_l, qst_n, qst_c, qJ_0, qJ_st, qJ_go, qfl_I, qfl_Z, qfl_L, qfl_R, qrI_i, qrL_l, qrV_v, qRcv_0, qRcv_s, eq_self, true_and, and_true, true_or, or_true, false_and, and_false, false_or, or_false, ite_true, if_true, if_false, Bool.true_or, Bool.false_or, Bool.or_false, beq_self_eq_true, Bool.false_eq_true, bX12_mark_0, bX12_mark_14, kX12_mark_0, kX12_mark_14, qK_139, qR_139_0, qK_140, qR_139_1, qK_141, qR_139_5, qK_142, qR_139_6, qK_143, qR_139_7, qK_144, qR_139_8, qK_145, qR_139_9, qK_146, qR_139_21, qK_147, qR_139_25, qK_148, qR_139_30, qK_149, qR_139_31, qK_150, qR_139_33, qK_151, qR_139_34, qK_152, qR_139_35, qK_153, qR_139_36, qK_154, qR_139_39, qK_155, qR_139_40, qK_156, qR_139_41, qK_157]
  rw [hm]
  simp (disch := omega) only [nI_leI, nI_ltI, nI_eq, nI_cl, qin_eq, nI_add, nI_mul, qb_z, qb_t, qb_f, nI_ne0', Nat.reduceAdd, Bool.false_eq_true, if_false, if_true, true_and, and_true, Nat.reduceEqDiff, not_true_eq_false, not_false_eq_true, false_implies, true_implies, ite_true, ite_false]
  refine ⟨fun h1 => ?_, fun h1 => ?_⟩
  · rw [qwi_1, if_pos ⟨rfl, rfl⟩]
    refine qBV.of (m_copies _ (f := 0) (t := m + 1) (by decide) (by omega) (by omega)) (by decide) (fun σ2 h2 => ?_)
    subst h2
    refine qBI.of (m_gives _ _) (by decide) (fun r σ4 h4 => ?_)
    obtain ⟨rfl, rfl⟩ := h4
    rw [if_neg h1]
    refine ⟨?_, rfl⟩
    show (zmv (qwi σ 139 43 (nI (m + 1))) 140 (456 * 0) (456 * (m + 1)) 456).1 139 43 = nI (m + 1)
    simp only [zmv]
    rw [if_neg (fun h => absurd h.1 (by decide)), qwi_1, if_pos ⟨rfl, rfl⟩]
  · refine qBI.of (m_refuse _ _) (by decide) (fun r σ4 h4 => ?_)
    obtain ⟨rfl, rfl⟩ := h4
    rw [if_pos h1]
    exact ⟨rfl, rfl⟩
set_option maxRecDepth 20000 in
theorem m_undo0 (σ : qSg) {m : Nat} (hm : σ.1 139 43 = nI m) (h3 : m ≤ 3) : qCI 2 367 [qr 139] σ (fun r σ' => if m = 0 then r = iI (-1) ∧ σ' = qwi σ 139 2 (nI 6) else
    r = nI (m - 1) ∧ σ' = qwi (qwi (zlm (zmv σ 140 (456 * m) 0 456) 141 (8 * m) 0 8) 139 43 (nI (m - 1))) 139 2 (nI 0)) := by
  refine qCI.of [some (qr 139)] ok_367 (Nat.le_of_ble_eq_true rfl) rfl ?_
  refine qV.go 30 [9999] ok_367 ?_
  simp only [qW_nop, qW_iconst, qW_bipush, qW_aloadn, qW_isub, qW_dup, qW_ifne, qW_getf, qW_cv2_0, qW_cv3_2, qW_iret0, qW_putf0, Nat.reduceAdd, Nat.reduceMul, Nat.reduceBEq, Nat.reduceEqDiff, Nat.reduceLT, Nat.reduceLeDiff, Nat.zero_le, nI_add, nI_mul, nI_cl, qin_eq, qofI, qlg_0, qlg_s, qls_i0, qls_r0, qls_l0, qls_1, qls_2, qkl_i, qkl_r, qkl_l, qkl_n, qIsI_i, qIsL_l, qIsR_r, qint_i, qil_i, qil_r, qil_l, qf4_0, qf4_1, qf4_2, qf4_3, qf2_0, qf2_1, qcs_n, qcs_i, qcs_r, qcs_l, qst_n, qst_c, qJ_0, qJ_st, qJ_go, qfl_I, qfl_Z, qfl_L, qfl_R, qrI_i, qrL_l, qrV_v, qRcv_0, qRcv_s, eq_self, true_and, and_true, true_or, or_true, false_and, and_false, false_or, or_false, ite_true, if_true, if_false, Bool.true_or, Bool.false_or, Bool.or_false, beq_self_eq_true, Bool.false_eq_true, bX12_undo_0, bX12_undo_14, kX12_undo_0, kX12_undo_14, qK_139, qR_139_0, qK_140, qR_139_1, qK_141, qR_139_5, qK_142, qR_139_6, qK_143, qR_139_7, qK_144, qR_139_8, qK_145, qR_139_9, qK_146, qR_139_21, qK_147, qR_139_25, qK_148, qR_139_30, qK_149, qR_139_31, qK_150, qR_139_33, qK_151, qR_139_34, qK_152, qR_139_35, qK_153, qR_139_36, qK_154, qR_139_39, qK_155, qR_139_40, qK_156, qR_139_41, qK_157]
  rw [hm]
  simp (disch := omega) only [nI_leI, nI_ltI, nI_eq, nI_cl, qin_eq, nI_add, nI_mul, qb_z, qb_t, qb_f, nI_ne0', Nat.reduceAdd, Bool.false_eq_true, if_false, if_true, true_and, and_true, Nat.reduceEqDiff, not_true_eq_false, not_false_eq_true, false_implies, true_implies, ite_true, ite_false]
  refine ⟨fun h1 => ?_, fun h1 => ?_⟩
  · refine qBV.of (m_copies _ (f := m) (t := 0) (by omega) (by decide) (by omega)) (by decide) (fun σ2 h2 => ?_)
    subst h2
    have e : (zlm (zmv σ 140 (456 * m) (456 * 0) 456) 141 (8 * m) (8 * 0) 8).1 139 43 = nI m := by
      show (zmv σ 140 (456 * m) (456 * 0) 456).1 139 43 = nI m
      simp only [zmv]
      rw [if_neg (fun h => absurd h.1 (by decide)), hm]
    rw [e, nI_sub (by omega)]
    refine qBI.of (m_gives _ _) (by decide) (fun r σ4 h4 => ?_)
    obtain ⟨rfl, rfl⟩ := h4
    rw [if_neg h1]
    refine ⟨?_, rfl⟩
    rw [qwi_1, if_pos ⟨rfl, rfl⟩]
  · refine qBI.of (m_refuse _ _) (by decide) (fun r σ4 h4 => ?_)
    obtain ⟨rfl, rfl⟩ := h4
    rw [if_pos h1]
    exact ⟨rfl, rfl⟩
