/-! the reference's calls -/
theorem zRef.rf {σ : qSg} : zRef σ σ := zG.rf
theorem e_ok {σ σ1 : qSg} {A1 : zA} {Y : Int32 × zA} {v : Int32} {d : Nat} (h : zMA σ1 A1) (hW : zAW A1) (f : zRef σ σ1) (hd : 1 < d) (hY : Y = (v, sS A1 0)) : qBI d 215 [qr 139, qi v] σ1 (zCall σ Y) := by
  subst hY
  refine qBI.of (m_gives _ _) hd (fun r σ2 g => ?_)
  obtain ⟨rfl, rfl⟩ := g
  exact ⟨rfl, h.st hW 0, f.tr zRef.st⟩
theorem e_no {σ σ1 : qSg} {A1 : zA} {Y : Int32 × zA} {k d : Nat} (h : zMA σ1 A1) (hW : zAW A1) (f : zRef σ σ1) (hd : 1 < d) (hY : Y = (iI (-1), sS A1 k)) : qBI d 214 [qr 139, qi (nI k)] σ1 (zCall σ Y) := by
  subst hY
  refine qBI.of (m_refuse _ _) hd (fun r σ2 g => ?_)
  obtain ⟨rfl, rfl⟩ := g
  exact ⟨rfl, h.st hW k, f.tr zRef.st⟩
theorem e_is {σ σ1 : qSg} {A1 : zA} {Y : Int32 × zA} {k d : Nat} (h : zMA σ1 A1) (hW : zAW A1) (f : zRef σ σ1) (hk : k < 2147483648) (hd : 1 < d) (hY : Y = (qb (decide (k = 0)), sS A1 k)) : qBI d 213 [qr 139, qi (nI k)] σ1 (fun r σ' => (r = nI 0 ∨ r = nI 1) ∧ zCall σ Y r σ') := by
  subst hY
  refine qBI.of (m_is _ k hk) hd (fun r σ2 g => ?_)
  obtain ⟨rfl, rfl⟩ := g
  exact ⟨qb_01 _, rfl, h.st hW k, f.tr zRef.st⟩
theorem zM.z {σ : qSg} {s : Nat} {C : zC} (h : zM σ s C) (e : s = 0) : zM σ 0 C := e ▸ h
theorem zMA.m {σ : qSg} {A : zA} (h : zMA σ A) : zM σ 0 (aC A) := h.1.1
theorem zAW.w {A : zA} (h : zAW A) : zW (aC A) := h.1.1
theorem zRf_m {σ σ' : qSg} (f : zF zPm σ σ') : zRef σ σ' := zRef.f f fun a j h => by unfold zPm at h; omega
theorem zRf_c {σ σ' : qSg} (f : zF zPc σ σ') : zRef σ σ' := zRef.f f fun a j h => by unfold zPc at h; omega
-- the state goes on holding
theorem zAW.c {A : zA} (h : zAW A) {C : zC} (hw : zW C) (h5 : C 0 5 ≤ 9999) (e : ∀ i, i ≠ 1 → i ≠ 4 → i ≠ 5 → C 0 i = aC A 0 i) : zAW (sC A C) := by
  obtain ⟨w1, w2⟩ := h
  refine ⟨⟨hw, h5, ?_, fun w hw2 => ?_⟩, w2⟩
  · show zNW (C 0 0) A.1.2.1
    rw [e 0 (by decide) (by decide) (by decide)]
    exact w1.2.2.1
  · show zWW w.1 w.2 (C 0 0) (C 0 2 * C 0 3)
    rw [e 0 (by decide) (by decide) (by decide), e 2 (by decide) (by decide) (by decide), e 3 (by decide) (by decide) (by decide)]
    exact w1.2.2.2 w hw2
def zCallL (σ : qSg) (Y : Int64 × zA) (r : Int64) (σ' : qSg) : Prop := r = Y.1 ∧ zMA σ' Y.2 ∧ zRef σ σ'
set_option maxRecDepth 20000 in
theorem M_status {σ : qSg} {A : zA} (hA : zMA σ A) : qCI 1 210 [qr 139] σ (zCall σ (yStatus A)) := by
  refine qCI.of [some (qr 139)] ok_210 (Nat.le_of_ble_eq_true rfl) rfl ?_
  refine qV.go 30 [9999] ok_210 ?_
  simp only [qW_nop, qW_aloadn, qW_getf, qW_iret0, Nat.reduceAdd, Nat.reduceMul, Nat.reduceBEq, Nat.reduceEqDiff, Nat.reduceLT, Nat.reduceLeDiff, Nat.zero_le, nI_add, nI_mul, nI_cl, qin_eq, qofI, qlg_0, qlg_s, qls_i0, qls_r0, qls_l0, qls_1, qls_2, qkl_i, qkl_r, qkl_l, qkl_n, qIsI_i, qIsL_l, qIsR_r, qint_i, qil_i, qil_r, qil_l, qf4_0, qf4_1, qf4_2, qf4_3, qf2_0, qf2_1, qcs_n, qcs_i, qcs_r, qcs_l, qst_n, qst_c, qJ_0, qJ_st, qJ_go, qfl_I, qfl_Z, qfl_L, qfl_R, qrI_i, qrL_l, qrV_v, qRcv_0, qRcv_s, eq_self, true_and, and_true, true_or, or_true, false_and, and_false, false_or, or_false, ite_true, if_true, if_false, Bool.true_or, Bool.false_or, Bool.or_false, beq_self_eq_true, Bool.false_eq_true, bX12_status_0, kX12_status_0, qK_139, qR_139_0, qK_140, qR_139_1, qK_141, qR_139_5, qK_142, qR_139_6, qK_143, qR_139_7, qK_144, qR_139_8, qK_145, qR_139_9, qK_146, qR_139_21, qK_147, qR_139_25, qK_148, qR_139_30, qK_149, qR_139_31, qK_150, qR_139_33, qK_151, qR_139_34, qK_152, qR_139_35, qK_153, qR_139_36, qK_154, qR_139_39, qK_155, qR_139_40, qK_156, qR_139_41, qK_157]
  exact ⟨hA.2.2.2.2.2.2.1, hA, zRef.rf⟩
set_option maxRecDepth 20000 in
theorem M_top {σ : qSg} {A : zA} (hA : zMA σ A) : qCL 1 211 [qr 139] σ (zCallL σ (yTop A)) := by
  refine qCL.of [some (qr 139)] ok_211 (Nat.le_of_ble_eq_true rfl) rfl ?_
  refine qV.go 30 [9999] ok_211 ?_
  simp only [qW_nop, qW_aloadn, qW_getf, qW_lret, Nat.reduceAdd, Nat.reduceMul, Nat.reduceBEq, Nat.reduceEqDiff, Nat.reduceLT, Nat.reduceLeDiff, Nat.zero_le, nI_add, nI_mul, nI_cl, qin_eq, qofI, qlg_0, qlg_s, qls_i0, qls_r0, qls_l0, qls_1, qls_2, qkl_i, qkl_r, qkl_l, qkl_n, qIsI_i, qIsL_l, qIsR_r, qint_i, qil_i, qil_r, qil_l, qf4_0, qf4_1, qf4_2, qf4_3, qf2_0, qf2_1, qcs_n, qcs_i, qcs_r, qcs_l, qst_n, qst_c, qJ_0, qJ_st, qJ_go, qfl_I, qfl_Z, qfl_L, qfl_R, qrI_i, qrL_l, qrV_v, qRcv_0, qRcv_s, eq_self, true_and, and_true, true_or, or_true, false_and, and_false, false_or, or_false, ite_true, if_true, if_false, Bool.true_or, Bool.false_or, Bool.or_false, beq_self_eq_true, Bool.false_eq_true, bX12_top_0, kX12_top_0, qK_139, qR_139_0, qK_140, qR_139_1, qK_141, qR_139_5, qK_142, qR_139_6, qK_143, qR_139_7, qK_144, qR_139_8, qK_145, qR_139_9, qK_146, qR_139_21, qK_147, qR_139_25, qK_148, qR_139_30, qK_149, qR_139_31, qK_150, qR_139_33, qK_151, qR_139_34, qK_152, qR_139_35, qK_153, qR_139_36, qK_154, qR_139_39, qK_155, qR_139_40, qK_156, qR_139_41, qK_157]
  exact ⟨hA.2.2.2.2.2.1.1, hA, zRef.rf⟩
set_option maxRecDepth 20000 in
theorem M_bottom {σ : qSg} {A : zA} (hA : zMA σ A) : qCL 1 212 [qr 139] σ (zCallL σ (yBottom A)) := by
  refine qCL.of [some (qr 139)] ok_212 (Nat.le_of_ble_eq_true rfl) rfl ?_
  refine qV.go 30 [9999] ok_212 ?_
  simp only [qW_nop, qW_aloadn, qW_getf, qW_lret, Nat.reduceAdd, Nat.reduceMul, Nat.reduceBEq, Nat.reduceEqDiff, Nat.reduceLT, Nat.reduceLeDiff, Nat.zero_le, nI_add, nI_mul, nI_cl, qin_eq, qofI, qlg_0, qlg_s, qls_i0, qls_r0, qls_l0, qls_1, qls_2, qkl_i, qkl_r, qkl_l, qkl_n, qIsI_i, qIsL_l, qIsR_r, qint_i, qil_i, qil_r, qil_l, qf4_0, qf4_1, qf4_2, qf4_3, qf2_0, qf2_1, qcs_n, qcs_i, qcs_r, qcs_l, qst_n, qst_c, qJ_0, qJ_st, qJ_go, qfl_I, qfl_Z, qfl_L, qfl_R, qrI_i, qrL_l, qrV_v, qRcv_0, qRcv_s, eq_self, true_and, and_true, true_or, or_true, false_and, and_false, false_or, or_false, ite_true, if_true, if_false, Bool.true_or, Bool.false_or, Bool.or_false, beq_self_eq_true, Bool.false_eq_true, bX12_bottom_0, kX12_bottom_0, qK_139, qR_139_0, qK_140, qR_139_1, qK_141, qR_139_5, qK_142, qR_139_6, qK_143, qR_139_7, qK_144, qR_139_8, qK_145, qR_139_9, qK_146, qR_139_21, qK_147, qR_139_25, qK_148, qR_139_30, qK_149, qR_139_31, qK_150, qR_139_33, qK_151, qR_139_34, qK_152, qR_139_35, qK_153, qR_139_36, qK_154, qR_139_39, qK_155, qR_139_40, qK_156, qR_139_41, qK_157]
  exact ⟨hA.2.2.2.2.2.1.2, hA, zRef.rf⟩
set_option maxRecDepth 20000 in
theorem M_fault {σ : qSg} {A : zA} (hA : zMA σ A) (w : Int32) : qCI 1 242 [qr 139, qi w] σ (zCall σ (yFault A w)) := by
  refine qCI.of [some (qr 139), some (qi w)] ok_242 (Nat.le_of_ble_eq_true rfl) rfl ?_
  refine qV.go 30 [9999] ok_242 ?_
  simp only [qW_nop, qW_iconst, qW_iconstm, qW_iloadn, qW_aloadn, qW_ifne, qW_icne, qW_goto, qW_getf, qW_iret0, Nat.reduceAdd, Nat.reduceMul, Nat.reduceBEq, Nat.reduceEqDiff, Nat.reduceLT, Nat.reduceLeDiff, Nat.zero_le, nI_add, nI_mul, nI_cl, qin_eq, qofI, qlg_0, qlg_s, qls_i0, qls_r0, qls_l0, qls_1, qls_2, qkl_i, qkl_r, qkl_l, qkl_n, qIsI_i, qIsL_l, qIsR_r, qint_i, qil_i, qil_r, qil_l, qf4_0, qf4_1, qf4_2, qf4_3, qf2_0, qf2_1, qcs_n, qcs_i, qcs_r, qcs_l, qst_n, qst_c, qJ_0, qJ_st, qJ_go, qfl_I, qfl_Z, qfl_L, qfl_R, qrI_i, qrL_l, qrV_v, qRcv_0, qRcv_s, eq_self, true_and, and_true, true_or, or_true, false_and, and_false, false_or, or_false, ite_true, if_true, if_false, Bool.true_or, Bool.false_or, Bool.or_false, beq_self_eq_true, Bool.false_eq_true, bX12_fault_0, bX12_fault_11, bX12_fault_23, bX12_fault_24, kX12_fault_0, kX12_fault_11, kX12_fault_23, kX12_fault_24, qK_139, qR_139_0, qK_140, qR_139_1, qK_141, qR_139_5, qK_142, qR_139_6, qK_143, qR_139_7, qK_144, qR_139_8, qK_145, qR_139_9, qK_146, qR_139_21, qK_147, qR_139_25, qK_148, qR_139_30, qK_149, qR_139_31, qK_150, qR_139_33, qK_151, qR_139_34, qK_152, qR_139_35, qK_153, qR_139_36, qK_154, qR_139_39, qK_155, qR_139_40, qK_156, qR_139_41, qK_157]
  rw [qnI0 w]
  unfold yFault
  refine ⟨fun h => ⟨fun h1 => ?_, fun h1 => ?_⟩, fun h => ?_⟩
  · rw [if_neg h, if_neg h1]
    exact ⟨rfl, hA, zRef.rf⟩
  · rw [if_neg h, if_pos h1]
    exact ⟨hA.2.2.2.2.2.2.2.1.2, hA, zRef.rf⟩
  · rw [if_pos h]
    exact ⟨hA.2.2.2.2.2.2.2.1.1, hA, zRef.rf⟩
-- the tape
theorem zTape.put {σ : qSg} {t : zTp} (h : zTape σ t) (ht : t.1 < 900) (x : Int32) : zTape (qwi (qwi σ 145 t.1 (zby (zlb x))) 139 10 (nI (t.1 + 1))) (zput t (zlb x)) := by
  refine ⟨by rw [qwi_1, if_pos ⟨rfl, rfl⟩]; rfl, fun j hj => ?_⟩
  have hj : j < t.1 + 1 := hj
  show _ = zby (if j = t.1 then zlb x else t.2 j)
  rw [qwi_1, if_neg (by omega), qwi_1]
  by_cases e : j = t.1
  · rw [if_pos ⟨rfl, e⟩, if_pos e]
  · rw [if_neg (by omega), if_neg e]
    exact h.2 j (by omega)
def zPtp (a j : Nat) : Prop := a = 145 ∨ (a = 139 ∧ j = 10)
set_option maxRecDepth 20000 in
theorem m_four {σ : qSg} {t : zTp} (h : zTape σ t) (ht : t.1 + 4 ≤ 900) (x : Int32) : qCV 1 227 [qr 139, qi x] σ (fun σ' => zTape σ' (zfour t x) ∧ zF zPtp σ σ') := by
  refine qCV.of [some (qr 139), some (qi x), none] ok_227 (Nat.le_of_ble_eq_true rfl) rfl ?_
  refine qV.go 30 [3] ok_227 ?_
  simp only [qW_nop, qW_iconst, qW_bipush, qW_iloadn, qW_aloadn, qW_istoren, qW_iincm, qW_iadd, qW_ishr, qW_i2b, qW_dup, qW_iflt, qW_goto, qW_getf, qW_bast, qW_vret, qW_putf0, Nat.reduceAdd, Nat.reduceMul, Nat.reduceBEq, Nat.reduceEqDiff, Nat.reduceLT, Nat.reduceLeDiff, Nat.zero_le, nI_add, nI_mul, nI_cl, qin_eq, qofI, qlg_0, qlg_s, qls_i0, qls_r0, qls_l0, qls_1, qls_2, qkl_i, qkl_r, qkl_l, qkl_n, qIsI_i, qIsL_l, qIsR_r, qint_i, qil_i, qil_r, qil_l, qf4_0, qf4_1, qf4_2, qf4_3, qf2_0, qf2_1, qcs_n, qcs_i, qcs_r, qcs_l, qst_n, qst_c, qJ_0, qJ_st, qJ_go, qfl_I, qfl_Z, qfl_L, qfl_R, qrI_i, qrL_l, qrV_v, qRcv_0, qRcv_s, eq_self, true_and, and_true, true_or, or_true, false_and, and_false, false_or, or_false, ite_true, if_true, if_false, Bool.true_or, Bool.false_or, Bool.or_false, beq_self_eq_true, Bool.false_eq_true, bX12_four_0, bX12_four_3, bX12_four_36, kX12_four_0, kX12_four_3, kX12_four_36, qK_139, qR_139_0, qK_140, qR_139_1, qK_141, qR_139_5, qK_142, qR_139_6, qK_143, qR_139_7, qK_144, qR_139_8, qK_145, qR_139_9, qK_146, qR_139_21, qK_147, qR_139_25, qK_148, qR_139_30, qK_149, qR_139_31, qK_150, qR_139_33, qK_151, qR_139_34, qK_152, qR_139_35, qK_153, qR_139_36, qK_154, qR_139_39, qK_155, qR_139_40, qK_156, qR_139_41, qK_157]
  have one : ∀ (k : Nat) (t1 : zTp) (σ1 : qSg), k < 25 → t1.1 < 900 → zTape σ1 t1 → zF zPtp σ σ1 → (∀ σ2, zTape σ2 (zput t1 (zlb (x >>> (nI k &&& 31)))) → zF zPtp σ σ2 → qV 227 1 (.inr (.inr fun σ' => zTape σ' (zfour t x) ∧ zF zPtp σ σ')) 3 [some (qr 139), some (qi x), some (qi (iI ((k : Int) - 8)))] [] σ2) → qV 227 1 (.inr (.inr fun σ' => zTape σ' (zfour t x) ∧ zF zPtp σ σ')) 3 [some (qr 139), some (qi x), some (qi (nI k))] [] σ1 := by
    intro k t1 σ1 hk h900 hT f1 K
    refine qV.go 30 [3] ok_227 ?_
    simp only [qW_nop, qW_iconst, qW_bipush, qW_iloadn, qW_aloadn, qW_istoren, qW_iincm, qW_iadd, qW_ishr, qW_i2b, qW_dup, qW_iflt, qW_goto, qW_getf, qW_bast, qW_vret, qW_putf0, Nat.reduceAdd, Nat.reduceMul, Nat.reduceBEq, Nat.reduceEqDiff, Nat.reduceLT, Nat.reduceLeDiff, Nat.zero_le, nI_add, nI_mul, nI_cl, qin_eq, qofI, qlg_0, qlg_s, qls_i0, qls_r0, qls_l0, qls_1, qls_2, qkl_i, qkl_r, qkl_l, qkl_n, qIsI_i, qIsL_l, qIsR_r, qint_i, qil_i, qil_r, qil_l, qf4_0, qf4_1, qf4_2, qf4_3, qf2_0, qf2_1, qcs_n, qcs_i, qcs_r, qcs_l, qst_n, qst_c, qJ_0, qJ_st, qJ_go, qfl_I, qfl_Z, qfl_L, qfl_R, qrI_i, qrL_l, qrV_v, qRcv_0, qRcv_s, eq_self, true_and, and_true, true_or, or_true, false_and, and_false, false_or, or_false, ite_true, if_true, if_false, Bool.true_or, Bool.false_or, Bool.or_false, beq_self_eq_true, Bool.false_eq_true, bX12_four_0, bX12_four_3, bX12_four_36, kX12_four_0, kX12_four_3, kX12_four_36, qK_139, qR_139_0, qK_140, qR_139_1, qK_141, qR_139_5, qK_142, qR_139_6, qK_143, qR_139_7, qK_144, qR_139_8, qK_145, qR_139_9, qK_146, qR_139_21, qK_147, qR_139_25, qK_148, qR_139_30, qK_149, qR_139_31, qK_150, qR_139_33, qK_151, qR_139_34, qK_152, qR_139_35, qK_153, qR_139_36, qK_154, qR_139_39, qK_155, qR_139_40, qK_156, qR_139_41, qK_157]
    rw [hT.1]
    have n0 : ¬ nI k < 0 := nI_pos (by omega)
    have ek : nI k + iI (-8) = iI ((k : Int) - 8) := by rw [iI_nat, iI_add]; congr 1
    have e3 : ∀ y, (qwi σ1 145 t1.1 y).1 139 10 = nI t1.1 := fun y => by rw [qwi_1, if_neg (by omega)]; exact hT.1
    simp (disch := omega) only [nI_leI, nI_ltI, nI_eq, nI_cl, qin_eq, nI_add, nI_mul, qb_z, qb_t, qb_f, nI_ne0', Nat.reduceAdd, Bool.false_eq_true, if_false, if_true, true_and, and_true, Nat.reduceEqDiff, not_true_eq_false, not_false_eq_true, false_implies, true_implies, ite_true, ite_false]
    simp only [e3]
    refine ⟨fun hh => absurd hh n0, fun _ => ?_⟩
    simp (disch := omega) only [nI_leI, nI_ltI, nI_eq, nI_cl, qin_eq, nI_add, nI_mul, qb_z, qb_t, qb_f, nI_ne0', Nat.reduceAdd, Bool.false_eq_true, if_false, if_true, true_and, and_true, Nat.reduceEqDiff, not_true_eq_false, not_false_eq_true, false_implies, true_implies, ite_true, ite_false]
    rw [zlb_twice]
    rw [ek]
    exact K _ (hT.put h900 _) ((f1.tr (zF.wi (Or.inl rfl))).tr (zF.wi (Or.inr ⟨rfl, rfl⟩)))
  have w : ∀ a : Int, a = (24 : Nat) → iI a = nI 24 := fun a e => by rw [e, ← iI_nat]
  refine one 24 t σ (by decide) (by omega) h zF.rf (fun σ1 a1 f1 => ?_)
  rw [show iI (((24 : Nat) : Int) - 8) = nI 16 from by rw [iI_nat]; rfl]
  refine one 16 _ σ1 (by decide) (by show t.1 + 1 < 900; omega) a1 f1 (fun σ2 a2 f2 => ?_)
  rw [show iI (((16 : Nat) : Int) - 8) = nI 8 from by rw [iI_nat]; rfl]
  refine one 8 _ σ2 (by decide) (by show t.1 + 1 + 1 < 900; omega) a2 f2 (fun σ3 a3 f3 => ?_)
  rw [show iI (((8 : Nat) : Int) - 8) = nI 0 from by rw [iI_nat]; rfl]
  refine one 0 _ σ3 (by decide) (by show t.1 + 1 + 1 + 1 < 900; omega) a3 f3 (fun σ4 a4 f4 => ?_)
  rw [qshr0] at a4
  refine qV.go 30 [3] ok_227 ?_
  simp only [qW_nop, qW_iconst, qW_bipush, qW_iloadn, qW_aloadn, qW_istoren, qW_iincm, qW_iadd, qW_ishr, qW_i2b, qW_dup, qW_iflt, qW_goto, qW_getf, qW_bast, qW_vret, qW_putf0, Nat.reduceAdd, Nat.reduceMul, Nat.reduceBEq, Nat.reduceEqDiff, Nat.reduceLT, Nat.reduceLeDiff, Nat.zero_le, nI_add, nI_mul, nI_cl, qin_eq, qofI, qlg_0, qlg_s, qls_i0, qls_r0, qls_l0, qls_1, qls_2, qkl_i, qkl_r, qkl_l, qkl_n, qIsI_i, qIsL_l, qIsR_r, qint_i, qil_i, qil_r, qil_l, qf4_0, qf4_1, qf4_2, qf4_3, qf2_0, qf2_1, qcs_n, qcs_i, qcs_r, qcs_l, qst_n, qst_c, qJ_0, qJ_st, qJ_go, qfl_I, qfl_Z, qfl_L, qfl_R, qrI_i, qrL_l, qrV_v, qRcv_0, qRcv_s, eq_self, true_and, and_true, true_or, or_true, false_and, and_false, false_or, or_false, ite_true, if_true, if_false, Bool.true_or, Bool.false_or, Bool.or_false, beq_self_eq_true, Bool.false_eq_true, bX12_four_0, bX12_four_3, bX12_four_36, kX12_four_0, kX12_four_3, kX12_four_36, qK_139, qR_139_0, qK_140, qR_139_1, qK_141, qR_139_5, qK_142, qR_139_6, qK_143, qR_139_7, qK_144, qR_139_8, qK_145, qR_139_9, qK_146, qR_139_21, qK_147, qR_139_25, qK_148, qR_139_30, qK_149, qR_139_31, qK_150, qR_139_33, qK_151, qR_139_34, qK_152, qR_139_35, qK_153, qR_139_36, qK_154, qR_139_39, qK_155, qR_139_40, qK_156, qR_139_41, qK_157]
  have : iI (((0 : Nat) : Int) - 8) < 0 := by decide
  exact ⟨fun _ => ⟨a4, f4⟩, fun hh => absurd this hh⟩
theorem zfour_1 (t : zTp) (x : Int32) : (zfour t x).1 = t.1 + 4 := rfl
theorem zfour_W {t : zTp} (h : zTpW t) (x : Int32) (hl : t.1 + 4 ≤ 900) : zTpW (zfour t x) := by
  refine ⟨hl, fun j => ?_⟩
  show (if j = t.1 + 1 + 1 + 1 then zlb x else if j = t.1 + 1 + 1 then _ else if j = t.1 + 1 then _ else if j = t.1 then _ else t.2 j) < 256
  split
  · exact zlb_lt _
  · split
    · exact zlb_lt _
    · split
      · exact zlb_lt _
      · split
        · exact zlb_lt _
        · exact h.2 j
set_option maxRecDepth 20000 in
theorem M_feed {σ : qSg} {A : zA} (hA : zMA σ A) (hW : zAW A) (a b c d e : Int32) : qCI 2 226 [qr 139, qi a, qi b, qi c, qi d, qi e] σ (zCall σ (yFeed A a b c d e)) := by
  obtain ⟨h1, h2, h3, h4, h5, h6, h7, h8, h9, h10⟩ := id hA
  obtain ⟨w1, w2, w3, w4, w5, w6⟩ := id hW
  have h900 := w5.1
  refine qCI.of [some (qr 139), some (qi a), some (qi b), some (qi c), some (qi d), some (qi e)] ok_226 (Nat.le_of_ble_eq_true rfl) rfl ?_
  refine qV.go 30 [9999] ok_226 ?_
  simp only [qW_nop, qW_iconstm, qW_bipush, qW_sipush, qW_iloadn, qW_iload, qW_aloadn, qW_iadd, qW_icle, qW_getf, qW_cv2_2, qW_iret0, Nat.reduceAdd, Nat.reduceMul, Nat.reduceBEq, Nat.reduceEqDiff, Nat.reduceLT, Nat.reduceLeDiff, Nat.zero_le, nI_add, nI_mul, nI_cl, qin_eq, qofI, qlg_0, qlg_s, qls_i0, qls_r0, qls_l0, qls_1, qls_2, qkl_i, qkl_r, qkl_l, qkl_n, qIsI_i, qIsL_l, qIsR_r, qint_i, qil_i, qil_r, qil_l, qf4_0, qf4_1, qf4_2, qf4_3, qf2_0, qf2_1, qcs_n, qcs_i, qcs_r, qcs_l, qst_n, qst_c, qJ_0, qJ_st, qJ_go, qfl_I, qfl_Z, qfl_L, qfl_R, qrI_i, qrL_l, qrV_v, qRcv_0, qRcv_s, eq_self, true_and, and_true, true_or, or_true, false_and, and_false, false_or, or_false, ite_true, if_true, if_false, Bool.true_or, Bool.false_or, Bool.or_false, beq_self_eq_true, Bool.false_eq_true, bX12_feed_0, bX12_feed_15, kX12_feed_0, kX12_feed_15, qK_139, qR_139_0, qK_140, qR_139_1, qK_141, qR_139_5, qK_142, qR_139_6, qK_143, qR_139_7, qK_144, qR_139_8, qK_145, qR_139_9, qK_146, qR_139_21, qK_147, qR_139_25, qK_148, qR_139_30, qK_149, qR_139_31, qK_150, qR_139_33, qK_151, qR_139_34, qK_152, qR_139_35, qK_153, qR_139_36, qK_154, qR_139_39, qK_155, qR_139_40, qK_156, qR_139_41, qK_157]
  rw [h5.1]
  simp (disch := omega) only [nI_leI, nI_ltI, nI_eq, nI_cl, qin_eq, nI_add, nI_mul, qb_z, qb_t, qb_f, nI_ne0', Nat.reduceAdd, Bool.false_eq_true, if_false, if_true, true_and, and_true, Nat.reduceEqDiff, not_true_eq_false, not_false_eq_true, false_implies, true_implies, ite_true, ite_false]
  unfold yFeed
  refine ⟨fun g => ?_, fun g => ?_⟩
  · rw [if_neg (by omega)]
    refine qBV.of (m_four h5 (by omega) a) (by decide) (fun σ1 g1 => ?_)
    refine qBV.of (m_four g1.1 (by rw [zfour_1]; omega) b) (by decide) (fun σ2 g2 => ?_)
    refine qBV.of (m_four g2.1 (by rw [zfour_1, zfour_1]; omega) c) (by decide) (fun σ3 g3 => ?_)
    refine qBV.of (m_four g3.1 (by rw [zfour_1, zfour_1, zfour_1]; omega) d) (by decide) (fun σ4 g4 => ?_)
    refine qBV.of (m_four g4.1 (by rw [zfour_1, zfour_1, zfour_1, zfour_1]; omega) e) (by decide) (fun σ5 g5 => ?_)
    have f := (((g1.2.tr g2.2).tr g3.2).tr g4.2).tr g5.2
    have k : ∀ x j, ¬ (x = 145 ∨ (x = 139 ∧ j = 10)) → σ5.1 x j = σ.1 x j := f.1
    refine ⟨g5.1.1, ⟨h1.kp w1 (fun j hj => k _ _ (by omega)) (fun j hj => by rw [f.2]), ?_, fun i i1 i2 => (h3 i i1 i2).kp (w3 i i1 i2) (fun j hj => k _ _ (by omega)) (fun j hj => by rw [f.2]), h4.kp (fun j => k _ _ (by omega)) (fun j => k _ _ (by omega)) (fun j => by rw [f.2]), g5.1, by rw [f.2]; exact h6, ?_, ⟨?_, ?_⟩, ⟨?_, fun hd j hj => ?_⟩, fun j hj => ?_⟩, zRef.f f (fun x j hh => by unfold zPtp at hh; omega)⟩
    · rw [k _ _ (by omega)]; exact h2
    · rw [k _ _ (by omega)]; exact h7
    · rw [k _ _ (by omega)]; exact h8.1
    · rw [k _ _ (by omega)]; exact h8.2
    · rw [k _ _ (by omega)]; exact h9.1
    · rw [k _ _ (by omega)]; exact h9.2 hd j hj
    · rw [k _ _ (by omega)]; exact h10 j hj
  · rw [if_pos (by omega)]
    exact ⟨rfl, hA, zRef.rf⟩
