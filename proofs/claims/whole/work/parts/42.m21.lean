/-! the reference: what a tray takes in; its calls -/
def zcut (v : Int64) (s : Nat) : Int64 := if s = 0 then v.toInt32.toInt8.toInt32.toInt64 else if s = 1 then v.toInt32.toInt16.toInt32.toInt64 else if s = 2 then v.toInt32.toInt64 else v
set_option maxRecDepth 20000 in
theorem m_cut (σ : qSg) (v : Int64) {s : Nat} (hs : s ≤ 3) : qFL 1 219 [ql v, qi (nI s)] σ (zcut v s) := by
  refine qCL.of [some (ql v), none, some (qi (nI s))] ok_219 (Nat.le_of_ble_eq_true rfl) rfl ?_
  refine qV.go 30 [9999] ok_219 ?_
  simp only [qW_nop, qW_iconst, qW_iloadn, qW_lloadn, qW_i2l, qW_l2i, qW_i2b, qW_i2s, qW_ifne, qW_icne, qW_goto, qW_lret, Nat.reduceAdd, Nat.reduceMul, Nat.reduceBEq, Nat.reduceEqDiff, Nat.reduceLT, Nat.reduceLeDiff, Nat.zero_le, nI_add, nI_mul, nI_cl, qin_eq, qofI, qlg_0, qlg_s, qls_i0, qls_r0, qls_l0, qls_1, qls_2, qkl_i, qkl_r, qkl_l, qkl_n, qIsI_i, qIsL_l, qIsR_r, qint_i, qil_i, qil_r, qil_l, qf4_0, qf4_1, qf4_2, qf4_3, qf2_0, qf2_1, qcs_n, qcs_i, qcs_r, qcs_l, qst_n, qst_c, qJ_0, qJ_st, qJ_go, qfl_I, qfl_Z, qfl_L, qfl_R, qrI_i, qrL_l, qrV_v, qRcv_0, qRcv_s, eq_self, true_and, and_true, true_or, or_true, false_and, and_false, false_or, or_false, ite_true, if_true, if_false, Bool.true_or, Bool.false_or, Bool.or_false, beq_self_eq_true, Bool.false_eq_true, bX12_cut_0, bX12_cut_11, bX12_cut_23, bX12_cut_34, bX12_cut_35, kX12_cut_0, kX12_cut_11, kX12_cut_23, kX12_cut_34, kX12_cut_35]
  unfold zcut
  simp (disch := omega) only [nI_leI, nI_ltI, nI_eq, nI_cl, qin_eq, nI_add, nI_mul, qb_z, qb_t, qb_f, nI_ne0', Nat.reduceAdd, Bool.false_eq_true, if_false, if_true, true_and, and_true, Nat.reduceEqDiff, not_true_eq_false, not_false_eq_true, false_implies, true_implies, ite_true, ite_false]
  refine ⟨fun h0 => ⟨fun h1 => ⟨fun h2 => ?_, fun h2 => ?_⟩, fun h1 => ?_⟩, fun h0 => ?_⟩
  · rw [if_neg h0, if_neg h1, if_neg h2]
  · rw [if_neg h0, if_neg h1, if_pos h2]
  · rw [if_neg h0, if_pos h1]
  · rw [if_pos h0]
/-- a number written in a tray -/
def zTput (T : zT) (t j : Nat) (v : Int64) : zT := (T.1, T.2.1, fun a i => if a = t ∧ i = j then zcut v (T.1 t) else T.2.2 a i)
theorem zMT_put {σ : qSg} {T : zT} (h : zMT σ T) (hT : zTW T) {t j n : Nat} (ht : t < 4) (hn : T.2.1 t = some n) (hj : j < n) (v : Int64) : zMT (qwl σ 144 (60 * t + j) (zcut v (T.1 t))) (zTput T t j v) := by
  intro a ha
  obtain ⟨h1, h2, h3⟩ := h a ha
  refine ⟨h1, h2, fun m i hm hi => ?_⟩
  have b1 := (hT a ha).2 m hm
  have b2 := (hT t ht).2 n hn
  rw [qwl_2]
  simp only [zTput]
  by_cases e : a = t ∧ i = j
  · obtain ⟨rfl, rfl⟩ := e
    simp
  · rw [if_neg e, if_neg (by omega)]
    exact h3 m i hm hi
set_option maxRecDepth 20000 in
theorem m_write {σ : qSg} {T : zT} (h : zMT σ T) (hT : zTW T) (t p : Int32) (v : Int64) : qCI 3 222 [qr 139, qi t, qi p, ql v] σ (fun r σ' => r = qb (decide (zwp T t p = 0)) ∧ ∃ σ1, σ' = qwi σ1 139 2 (nI (zwp T t p)) ∧ zMT σ1 (if zwp T t p = 0 then zTput T t.toInt.toNat p.toInt.toNat v else T) ∧ zG (fun _ _ => False) (fun a _ => a = 144) σ σ1) := by
  refine qCI.of [some (qr 139), some (qi t), some (qi p), some (ql v), none, none] ok_222 (Nat.le_of_ble_eq_true rfl) rfl ?_
  refine qV.go 30 [34] ok_222 ?_
  simp only [qW_nop, qW_bipush, qW_iloadn, qW_iload, qW_lloadn, qW_aloadn, qW_istore, qW_iadd, qW_imul, qW_ifne, qW_getf, qW_iald, qW_last, qW_cs2_1, qW_cv2_0, qW_cv3_0, qW_iret1, Nat.reduceAdd, Nat.reduceMul, Nat.reduceBEq, Nat.reduceEqDiff, Nat.reduceLT, Nat.reduceLeDiff, Nat.zero_le, nI_add, nI_mul, nI_cl, qin_eq, qofI, qlg_0, qlg_s, qls_i0, qls_r0, qls_l0, qls_1, qls_2, qkl_i, qkl_r, qkl_l, qkl_n, qIsI_i, qIsL_l, qIsR_r, qint_i, qil_i, qil_r, qil_l, qf4_0, qf4_1, qf4_2, qf4_3, qf2_0, qf2_1, qcs_n, qcs_i, qcs_r, qcs_l, qst_n, qst_c, qJ_0, qJ_st, qJ_go, qfl_I, qfl_Z, qfl_L, qfl_R, qrI_i, qrL_l, qrV_v, qRcv_0, qRcv_s, eq_self, true_and, and_true, true_or, or_true, false_and, and_false, false_or, or_false, ite_true, if_true, if_false, Bool.true_or, Bool.false_or, Bool.or_false, beq_self_eq_true, Bool.false_eq_true, bX12_write_0, bX12_write_34, kX12_write_0, kX12_write_34, qK_139, qR_139_0, qK_140, qR_139_1, qK_141, qR_139_5, qK_142, qR_139_6, qK_143, qR_139_7, qK_144, qR_139_8, qK_145, qR_139_9, qK_146, qR_139_21, qK_147, qR_139_25, qK_148, qR_139_30, qK_149, qR_139_31, qK_150, qR_139_33, qK_151, qR_139_34, qK_152, qR_139_35, qK_153, qR_139_36, qK_154, qR_139_39, qK_155, qR_139_40, qK_156, qR_139_41, qK_157]
  refine qBI.fn (m_wrongPlace h hT t p) (by decide) ?_
  have hz : zwp T t p < 4 := by
    unfold zwp
    split
    · decide
    · split
      · decide
      · split <;> decide
  have fin : ∀ σ1, zMT σ1 (if zwp T t p = 0 then zTput T t.toInt.toNat p.toInt.toNat v else T) → zG (fun _ _ => False) (fun a _ => a = 144) σ σ1 → qV 222 3 (.inl fun r σ' => r = qb (decide (zwp T t p = 0)) ∧ ∃ σ1, σ' = qwi σ1 139 2 (nI (zwp T t p)) ∧ zMT σ1 (if zwp T t p = 0 then zTput T t.toInt.toNat p.toInt.toNat v else T) ∧ zG (fun _ _ => False) (fun a _ => a = 144) σ σ1) 34 [some (qr 139), some (qi t), some (qi p), some (ql v), none, some (qi (nI (zwp T t p)))] [] σ1 := by
    intro σ1 a1 f1
    refine qV.go 30 [9999] ok_222 ?_
    simp only [qW_nop, qW_bipush, qW_iloadn, qW_iload, qW_lloadn, qW_aloadn, qW_istore, qW_iadd, qW_imul, qW_ifne, qW_getf, qW_iald, qW_last, qW_cs2_1, qW_cv2_0, qW_cv3_0, qW_iret1, Nat.reduceAdd, Nat.reduceMul, Nat.reduceBEq, Nat.reduceEqDiff, Nat.reduceLT, Nat.reduceLeDiff, Nat.zero_le, nI_add, nI_mul, nI_cl, qin_eq, qofI, qlg_0, qlg_s, qls_i0, qls_r0, qls_l0, qls_1, qls_2, qkl_i, qkl_r, qkl_l, qkl_n, qIsI_i, qIsL_l, qIsR_r, qint_i, qil_i, qil_r, qil_l, qf4_0, qf4_1, qf4_2, qf4_3, qf2_0, qf2_1, qcs_n, qcs_i, qcs_r, qcs_l, qst_n, qst_c, qJ_0, qJ_st, qJ_go, qfl_I, qfl_Z, qfl_L, qfl_R, qrI_i, qrL_l, qrV_v, qRcv_0, qRcv_s, eq_self, true_and, and_true, true_or, or_true, false_and, and_false, false_or, or_false, ite_true, if_true, if_false, Bool.true_or, Bool.false_or, Bool.or_false, beq_self_eq_true, Bool.false_eq_true, bX12_write_0, bX12_write_34, kX12_write_0, kX12_write_34, qK_139, qR_139_0, qK_140, qR_139_1, qK_141, qR_139_5, qK_142, qR_139_6, qK_143, qR_139_7, qK_144, qR_139_8, qK_145, qR_139_9, qK_146, qR_139_21, qK_147, qR_139_25, qK_148, qR_139_30, qK_149, qR_139_31, qK_150, qR_139_33, qK_151, qR_139_34, qK_152, qR_139_35, qK_153, qR_139_36, qK_154, qR_139_39, qK_155, qR_139_40, qK_156, qR_139_41, qK_157]
    refine qBI.of (m_is _ _ (by omega)) (by decide) (fun r σ4 h4 => ?_)
    obtain ⟨rfl, rfl⟩ := h4
    exact ⟨qb_01 _, rfl, σ1, rfl, a1, f1⟩
  refine ⟨fun h1 => fin σ ?_ zG.rf, fun h1 => ?_⟩
  · rw [if_neg (fun h => h1 (by rw [h]; exact nI_0))]
    exact h
  · have h0 : zwp T t p = 0 := by
      rw [nI_ne0' (by omega)] at h1
      exact h1
    have hc : ∃ k n i, k < 4 ∧ T.2.1 k = some n ∧ i < n ∧ t = nI k ∧ p = nI i := by
      unfold zwp at h0
      split at h0
      · omega
      · next ht =>
        obtain ⟨k, hk, rfl⟩ := zrg_nI (x := t) (n := 4) (by simpa using ht)
        rw [nI_t (by omega), Int.toNat_natCast] at h0
        cases en : T.2.1 k with
        | none => rw [en] at h0; simp at h0
        | some n =>
          rw [en] at h0
          by_cases hp : zrg p n = true
          · obtain ⟨i, hi, rfl⟩ := zrg_nI hp
            exact ⟨k, n, i, hk, en, hi, rfl, rfl⟩
          · simp [hp] at h0
    obtain ⟨k, n, i, hk, en, hi, rfl, rfl⟩ := hc
    have hn := (hT k hk).2 n en
    have hs := (hT k hk).1
    obtain ⟨g1, g2, g3⟩ := h k hk
    simp only [nI_c (show k < 2147483648 by omega)]
    rw [g1]
    refine ⟨qin_n (by omega) (by decide), qBL.fn (m_cut σ v hs) (by decide) ?_⟩
    simp only [nI_mul, nI_add, nI_c (show 60 * k + i < 2147483648 by omega)]
    refine ⟨qin_n (by omega) (by decide), fin _ ?_ (zG.wl rfl)⟩
    rw [if_pos h0, nI_t (by omega), nI_t (by omega), Int.toNat_natCast, Int.toNat_natCast]
    exact zMT_put h hT hk en hi v
