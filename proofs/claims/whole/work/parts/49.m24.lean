/-! the reference: tokens -/
def zcI (c : Nat) : Int32 := if c = 999 then iI (-1) else nI c
theorem zcI_t {c : Nat} (h : c < 1000) : (zcI c).toInt = if c = 999 then -1 else (c : Int) := by
  unfold zcI
  split
  · exact iI_toInt (by decide) (by decide)
  · exact nI_t (by omega)
theorem zcI_lt {c k : Nat} (h : c < 1000) (hk : k < 1000) : (zcI c < nI k) = (c = 999 ∨ c < k) := by
  rw [qlt, zcI_t h, nI_t (by omega)]
  apply propext
  split <;> omega
theorem zcI_gt {c k : Nat} (h : c < 1000) (hk : k < 1000) : (nI k < zcI c) = (c ≠ 999 ∧ k < c) := by
  rw [qlt, zcI_t h, nI_t (by omega)]
  apply propext
  split <;> omega
theorem zcI_eq {c k : Nat} (h : c < 1000) (hk : k < 1000) : (zcI c = nI k) = (c ≠ 999 ∧ c = k) := by
  rw [qeq, zcI_t h, nI_t (by omega)]
  apply propext
  split <;> omega
theorem zcI_no {c : Nat} (h : c < 1000) : (zcI c = iI (-1)) = (c = 999) := by
  rw [qeq, zcI_t h, iI_toInt (by decide) (by decide)]
  apply propext
  split <;> omega
theorem qmin_nI {a b : Nat} (ha : a < 2147483648) (hb : b < 2147483648) : qmin (nI a) (nI b) = nI (if b < a then b else a) := by
  unfold qmin
  simp (disch := omega) only [nI_leI, nI_ltI, nI_eq, nI_cl, qin_eq, nI_add, nI_mul, qb_z, qb_t, qb_f, nI_ne0', Nat.reduceAdd, Bool.false_eq_true, if_false, if_true, true_and, and_true, Nat.reduceEqDiff, not_true_eq_false, not_false_eq_true, false_implies, true_implies, ite_true, ite_false]
  split <;> rfl
theorem zB_k {B : Nat → Nat} {n : Nat} (hB : zBW B n) (k : Nat) : B k < 1000 := by
  rcases zB_lt hB k with h | h <;> omega
/-- the text that is read -/
def zTt (σ : qSg) (B : Nat → Nat) (n : Nat) : Prop := (∀ k, k < n → σ.1 146 k = zby (B k)) ∧ σ.1 139 11 = nI n
/-- the token behind place p stands -/
def zTk (σ : qSg) (B : Nat → Nat) (n p : Nat) : Prop :=
  zTt σ B n ∧ σ.1 139 12 = nI (tkK B p) ∧ σ.1 139 13 = nI (tkS B p) ∧ σ.1 139 14 = nI (tkE B p) ∧ (tkK B p = 3 ∨ tkK B p = 4 → σ.1 139 15 = nI (tkV B p))
def zPa (a j : Nat) : Prop := a = 139 ∧ (j = 12 ∨ j = 13 ∨ j = 14 ∨ j = 15)
theorem zTt.f {σ σ' : qSg} {B : Nat → Nat} {n : Nat} {P : Nat → Nat → Prop} (h : zTt σ B n) (f : zF P σ σ') (hp : ∀ j, ¬ P 146 j) (hq : ¬ P 139 11) : zTt σ' B n :=
  ⟨fun k hk => by rw [f.1 _ _ (hp k)]; exact h.1 k hk, by rw [f.1 _ _ hq]; exact h.2⟩
theorem zTt.a {σ σ' : qSg} {B : Nat → Nat} {n : Nat} (h : zTt σ B n) (f : zF zPa σ σ') : zTt σ' B n := h.f f (fun j hp => by unfold zPa at hp; omega) (fun hp => by unfold zPa at hp; omega)
set_option maxRecDepth 20000 in
theorem m_byteAt {σ : qSg} {B : Nat → Nat} {n : Nat} (hB : zBW B n) (h : zTt σ B n) {k : Nat} (hk : k < 100000) : qFI 1 228 [qr 139, qi (nI k)] σ (zcI (B k)) := by
  have h900 := hB.1
  refine qCI.of [some (qr 139), some (qi (nI k))] ok_228 (Nat.le_of_ble_eq_true rfl) rfl ?_
  refine qV.go 30 [9999] ok_228 ?_
  simp only [qW_nop, qW_iconstm, qW_sipush, qW_iloadn, qW_aloadn, qW_iand, qW_icge, qW_goto, qW_getf, qW_bald, qW_iret0, Nat.reduceAdd, Nat.reduceMul, Nat.reduceBEq, Nat.reduceEqDiff, Nat.reduceLT, Nat.reduceLeDiff, Nat.zero_le, nI_add, nI_mul, nI_cl, qin_eq, qofI, qlg_0, qlg_s, qls_i0, qls_r0, qls_l0, qls_1, qls_2, qkl_i, qkl_r, qkl_l, qkl_n, qIsI_i, qIsL_l, qIsR_r, qint_i, qil_i, qil_r, qil_l, qf4_0, qf4_1, qf4_2, qf4_3, qf2_0, qf2_1, qcs_n, qcs_i, qcs_r, qcs_l, qst_n, qst_c, qJ_0, qJ_st, qJ_go, qfl_I, qfl_Z, qfl_L, qfl_R, qrI_i, qrL_l, qrV_v, qRcv_0, qRcv_s, eq_self, true_and, and_true, true_or, or_true, false_and, and_false, false_or, or_false, ite_true, if_true, if_false, Bool.true_or, Bool.false_or, Bool.or_false, beq_self_eq_true, Bool.false_eq_true, bX12_byteAt_0, bX12_byteAt_21, bX12_byteAt_22, kX12_byteAt_0, kX12_byteAt_21, kX12_byteAt_22, qK_139, qR_139_0, qK_140, qR_139_1, qK_141, qR_139_5, qK_142, qR_139_6, qK_143, qR_139_7, qK_144, qR_139_8, qK_145, qR_139_9, qK_146, qR_139_21, qK_147, qR_139_25, qK_148, qR_139_30, qK_149, qR_139_31, qK_150, qR_139_33, qK_151, qR_139_34, qK_152, qR_139_35, qK_153, qR_139_36, qK_154, qR_139_39, qK_155, qR_139_40, qK_156, qR_139_41, qK_157]
  rw [h.2]
  simp (disch := omega) only [nI_leI, nI_ltI, nI_eq, nI_cl, qin_eq, nI_add, nI_mul, qb_z, qb_t, qb_f, nI_ne0', Nat.reduceAdd, Bool.false_eq_true, if_false, if_true, true_and, and_true, Nat.reduceEqDiff, not_true_eq_false, not_false_eq_true, false_implies, true_implies, ite_true, ite_false]
  refine ⟨fun h1 => ?_, fun h1 => ?_⟩
  · unfold zcI
    rw [hB.2.2 k h1]
    rfl
  · have h2 := hB.2.1 k (by omega)
    refine ⟨qin_n (by omega) (by decide), ?_⟩
    rw [h.1 k (by omega), zby_and h2]
    unfold zcI
    rw [if_neg (by omega)]
set_option maxRecDepth 20000 in
theorem m_isSmall (σ : qSg) {c : Nat} (hc : c < 1000) : qFI 1 229 [qi (zcI c)] σ (qb (zsm c)) := by
  refine qCI.of [some (qi (zcI c))] ok_229 (Nat.le_of_ble_eq_true rfl) rfl ?_
  refine qV.go 30 [9999] ok_229 ?_
  simp only [qW_nop, qW_iconst, qW_bipush, qW_iloadn, qW_iclt, qW_icgt, qW_goto, qW_iret1, Nat.reduceAdd, Nat.reduceMul, Nat.reduceBEq, Nat.reduceEqDiff, Nat.reduceLT, Nat.reduceLeDiff, Nat.zero_le, nI_add, nI_mul, nI_cl, qin_eq, qofI, qlg_0, qlg_s, qls_i0, qls_r0, qls_l0, qls_1, qls_2, qkl_i, qkl_r, qkl_l, qkl_n, qIsI_i, qIsL_l, qIsR_r, qint_i, qil_i, qil_r, qil_l, qf4_0, qf4_1, qf4_2, qf4_3, qf2_0, qf2_1, qcs_n, qcs_i, qcs_r, qcs_l, qst_n, qst_c, qJ_0, qJ_st, qJ_go, qfl_I, qfl_Z, qfl_L, qfl_R, qrI_i, qrL_l, qrV_v, qRcv_0, qRcv_s, eq_self, true_and, and_true, true_or, or_true, false_and, and_false, false_or, or_false, ite_true, if_true, if_false, Bool.true_or, Bool.false_or, Bool.or_false, beq_self_eq_true, Bool.false_eq_true, bX12_isSmall_0, bX12_isSmall_16, bX12_isSmall_17, kX12_isSmall_0, kX12_isSmall_16, kX12_isSmall_17]
  rw [zcI_lt hc (by decide), zcI_gt hc (by decide)]
  unfold zsm
  by_cases h1 : 97 ≤ c <;> by_cases h2 : c ≤ 122 <;> simp [h1, h2, qb] <;> omega
set_option maxRecDepth 20000 in
theorem m_isDigit (σ : qSg) {c : Nat} (hc : c < 1000) : qFI 1 230 [qi (zcI c)] σ (qb (zdi c)) := by
  refine qCI.of [some (qi (zcI c))] ok_230 (Nat.le_of_ble_eq_true rfl) rfl ?_
  refine qV.go 30 [9999] ok_230 ?_
  simp only [qW_nop, qW_iconst, qW_bipush, qW_iloadn, qW_iclt, qW_icgt, qW_goto, qW_iret1, Nat.reduceAdd, Nat.reduceMul, Nat.reduceBEq, Nat.reduceEqDiff, Nat.reduceLT, Nat.reduceLeDiff, Nat.zero_le, nI_add, nI_mul, nI_cl, qin_eq, qofI, qlg_0, qlg_s, qls_i0, qls_r0, qls_l0, qls_1, qls_2, qkl_i, qkl_r, qkl_l, qkl_n, qIsI_i, qIsL_l, qIsR_r, qint_i, qil_i, qil_r, qil_l, qf4_0, qf4_1, qf4_2, qf4_3, qf2_0, qf2_1, qcs_n, qcs_i, qcs_r, qcs_l, qst_n, qst_c, qJ_0, qJ_st, qJ_go, qfl_I, qfl_Z, qfl_L, qfl_R, qrI_i, qrL_l, qrV_v, qRcv_0, qRcv_s, eq_self, true_and, and_true, true_or, or_true, false_and, and_false, false_or, or_false, ite_true, if_true, if_false, Bool.true_or, Bool.false_or, Bool.or_false, beq_self_eq_true, Bool.false_eq_true, bX12_isDigit_0, bX12_isDigit_16, bX12_isDigit_17, kX12_isDigit_0, kX12_isDigit_16, kX12_isDigit_17]
  rw [zcI_lt hc (by decide), zcI_gt hc (by decide)]
  unfold zdi
  by_cases h1 : 48 ≤ c <;> by_cases h2 : c ≤ 57 <;> simp [h1, h2, qb] <;> omega
set_option maxRecDepth 20000 in
theorem ahead_end {σ σ1 : qSg} {B : Nat → Nat} {n p k e : Nat} {v : Int32} {lo : qLo} (h : zTt σ B n) (f : zF zPa σ σ1) (h1 : σ1.1 139 12 = nI k) (hk : tkK B p = k) (h2 : σ1.1 139 13 = nI (tkS B p)) (h3 : σ1.1 139 14 = nI e) (he : tkE B p = e) (h4 : σ1.1 139 15 = v) (hv : k = 3 ∨ k = 4 → v = nI (tkV B p)) :
    qV 231 2 (.inr (.inr fun σ' => zTk σ' B n p ∧ zF zPa σ σ')) 251 lo [] σ1 := by
  refine qV.go 30 [9999] ok_231 ?_
  simp only [qW_nop, qW_iconst, qW_iconstm, qW_bipush, qW_ldc, qW_iloadn, qW_aloadn, qW_istoren, qW_iadd, qW_isub, qW_imul, qW_dup, qW_ifeq, qW_iceq, qW_icne, qW_icle, qW_goto, qW_getf, qW_vret, qW_cs1_0, qW_cv2_0, qW_mmin, qW_putf0, Nat.reduceAdd, Nat.reduceMul, Nat.reduceBEq, Nat.reduceEqDiff, Nat.reduceLT, Nat.reduceLeDiff, Nat.zero_le, nI_add, nI_mul, nI_cl, qin_eq, qofI, qlg_0, qlg_s, qls_i0, qls_r0, qls_l0, qls_1, qls_2, qkl_i, qkl_r, qkl_l, qkl_n, qIsI_i, qIsL_l, qIsR_r, qint_i, qil_i, qil_r, qil_l, qf4_0, qf4_1, qf4_2, qf4_3, qf2_0, qf2_1, qcs_n, qcs_i, qcs_r, qcs_l, qst_n, qst_c, qJ_0, qJ_st, qJ_go, qfl_I, qfl_Z, qfl_L, qfl_R, qrI_i, qrL_l, qrV_v, qRcv_0, qRcv_s, eq_self, true_and, and_true, true_or, or_true, false_and, and_false, false_or, or_false, ite_true, if_true, if_false, Bool.true_or, Bool.false_or, Bool.or_false, beq_self_eq_true, Bool.false_eq_true, bX12_ahead_0, bX12_ahead_26, bX12_ahead_39, bX12_ahead_74, bX12_ahead_81, bX12_ahead_108, bX12_ahead_116, bX12_ahead_128, bX12_ahead_183, bX12_ahead_201, bX12_ahead_202, bX12_ahead_208, bX12_ahead_243, bX12_ahead_247, bX12_ahead_248, bX12_ahead_251, kX12_ahead_0, kX12_ahead_26, kX12_ahead_39, kX12_ahead_74, kX12_ahead_81, kX12_ahead_108, kX12_ahead_116, kX12_ahead_128, kX12_ahead_183, kX12_ahead_201, kX12_ahead_202, kX12_ahead_208, kX12_ahead_243, kX12_ahead_247, kX12_ahead_248, kX12_ahead_251, qK_139, qR_139_0, qK_140, qR_139_1, qK_141, qR_139_5, qK_142, qR_139_6, qK_143, qR_139_7, qK_144, qR_139_8, qK_145, qR_139_9, qK_146, qR_139_21, qK_147, qR_139_25, qK_148, qR_139_30, qK_149, qR_139_31, qK_150, qR_139_33, qK_151, qR_139_34, qK_152, qR_139_35, qK_153, qR_139_36, qK_154, qR_139_39, qK_155, qR_139_40, qK_156, qR_139_41, qK_157]
  subst hk
  subst he
  exact ⟨⟨h.a f, h1, h2, h3, fun hh => by rw [h4]; exact hv hh⟩, f⟩
set_option maxRecDepth 20000 in
theorem m_ahead {σ : qSg} {B : Nat → Nat} {n : Nat} (hB : zBW B n) (h : zTt σ B n) {p : Nat} (hp : p ≤ n) (he : σ.1 139 14 = nI p) : qCV 2 231 [qr 139] σ (fun σ' => zTk σ' B n p ∧ zF zPa σ σ') := by
  have h900 := hB.1
  have hs := tkS_spec hB hp
  refine qCV.of [some (qr 139), none] ok_231 (Nat.le_of_ble_eq_true rfl) rfl ?_
  refine qdown (n := tkS B p) (P := fun q => p ≤ q → ∀ σ1, zF zPa σ σ1 → σ1.1 139 14 = nI q → qV 231 2 (.inr (.inr fun σ' => zTk σ' B n p ∧ zF zPa σ σ')) 0 [some (qr 139), none] [] σ1) (fun q hq ih => ?_) p hs.1 (Nat.le_refl _) σ zF.rf he
  intro hpq σ1 f1 e1
  have t1 := h.a f1
  refine qV.go 30 [0, 39] ok_231 ?_
  simp only [qW_nop, qW_iconst, qW_iconstm, qW_bipush, qW_ldc, qW_iloadn, qW_aloadn, qW_istoren, qW_iadd, qW_isub, qW_imul, qW_dup, qW_ifeq, qW_iceq, qW_icne, qW_icle, qW_goto, qW_getf, qW_vret, qW_cs1_0, qW_cv2_0, qW_mmin, qW_putf0, Nat.reduceAdd, Nat.reduceMul, Nat.reduceBEq, Nat.reduceEqDiff, Nat.reduceLT, Nat.reduceLeDiff, Nat.zero_le, nI_add, nI_mul, nI_cl, qin_eq, qofI, qlg_0, qlg_s, qls_i0, qls_r0, qls_l0, qls_1, qls_2, qkl_i, qkl_r, qkl_l, qkl_n, qIsI_i, qIsL_l, qIsR_r, qint_i, qil_i, qil_r, qil_l, qf4_0, qf4_1, qf4_2, qf4_3, qf2_0, qf2_1, qcs_n, qcs_i, qcs_r, qcs_l, qst_n, qst_c, qJ_0, qJ_st, qJ_go, qfl_I, qfl_Z, qfl_L, qfl_R, qrI_i, qrL_l, qrV_v, qRcv_0, qRcv_s, eq_self, true_and, and_true, true_or, or_true, false_and, and_false, false_or, or_false, ite_true, if_true, if_false, Bool.true_or, Bool.false_or, Bool.or_false, beq_self_eq_true, Bool.false_eq_true, bX12_ahead_0, bX12_ahead_26, bX12_ahead_39, bX12_ahead_74, bX12_ahead_81, bX12_ahead_108, bX12_ahead_116, bX12_ahead_128, bX12_ahead_183, bX12_ahead_201, bX12_ahead_202, bX12_ahead_208, bX12_ahead_243, bX12_ahead_247, bX12_ahead_248, bX12_ahead_251, kX12_ahead_0, kX12_ahead_26, kX12_ahead_39, kX12_ahead_74, kX12_ahead_81, kX12_ahead_108, kX12_ahead_116, kX12_ahead_128, kX12_ahead_183, kX12_ahead_201, kX12_ahead_202, kX12_ahead_208, kX12_ahead_243, kX12_ahead_247, kX12_ahead_248, kX12_ahead_251, qK_139, qR_139_0, qK_140, qR_139_1, qK_141, qR_139_5, qK_142, qR_139_6, qK_143, qR_139_7, qK_144, qR_139_8, qK_145, qR_139_9, qK_146, qR_139_21, qK_147, qR_139_25, qK_148, qR_139_30, qK_149, qR_139_31, qK_150, qR_139_33, qK_151, qR_139_34, qK_152, qR_139_35, qK_153, qR_139_36, qK_154, qR_139_39, qK_155, qR_139_40, qK_156, qR_139_41, qK_157]
  rw [e1]
  refine qBI.fn (m_byteAt hB t1 (by omega)) (by decide) ?_
  have hc := zB_k hB q
  rw [zcI_eq hc (by decide)]
  by_cases hqs : q < tkS B p
  · -- a blank
    have hbl := hs.2.2.2 q hpq hqs
    have go : qV 231 2 (.inr (.inr fun σ' => zTk σ' B n p ∧ zF zPa σ σ')) 0 [some (qr 139), none] [] (qwi σ1 139 14 (nI (q + 1))) :=
      ih hqs (by omega) _ (f1.tr (zF.wi ⟨rfl, by decide⟩)) (by rw [qwi_1, if_pos ⟨rfl, rfl⟩])
    simp only [zbl, Bool.or_eq_true, decide_eq_true_eq] at hbl
    refine ⟨fun h1 => ?_, fun h1 => ?_⟩
    · simp only [e1, nI_add]
      exact go
    · simp only [e1]
      refine qBI.fn (m_byteAt hB t1 (by omega)) (by decide) ?_
      rw [zcI_eq hc (by decide)]
      refine ⟨fun h2 => ?_, fun h2 => ?_⟩
      · exact absurd (show B q ≠ 999 ∧ B q = 10 by omega) h2
      · simp only [e1, nI_add]
        exact go
  · have eq : q = tkS B p := by omega
    have hbl : B q ≠ 32 ∧ B q ≠ 10 := by
      have := hs.2.2.1
      rw [← eq] at this
      simpa [zbl] using this
    refine ⟨fun h1 => absurd h1.2 hbl.1, fun _ => ?_⟩
    simp only [e1]
    refine qBI.fn (m_byteAt hB t1 (by omega)) (by decide) ?_
    rw [zcI_eq hc (by decide)]
    refine ⟨fun _ => ?_, fun h2 => absurd (show B q ≠ 999 ∧ B q = 10 by simpa using h2).2 hbl.2⟩
    -- the token
    refine qV.go 30 [81, 128, 251] ok_231 ?_
    simp only [qW_nop, qW_iconst, qW_iconstm, qW_bipush, qW_ldc, qW_iloadn, qW_aloadn, qW_istoren, qW_iadd, qW_isub, qW_imul, qW_dup, qW_ifeq, qW_iceq, qW_icne, qW_icle, qW_goto, qW_getf, qW_vret, qW_cs1_0, qW_cv2_0, qW_mmin, qW_putf0, Nat.reduceAdd, Nat.reduceMul, Nat.reduceBEq, Nat.reduceEqDiff, Nat.reduceLT, Nat.reduceLeDiff, Nat.zero_le, nI_add, nI_mul, nI_cl, qin_eq, qofI, qlg_0, qlg_s, qls_i0, qls_r0, qls_l0, qls_1, qls_2, qkl_i, qkl_r, qkl_l, qkl_n, qIsI_i, qIsL_l, qIsR_r, qint_i, qil_i, qil_r, qil_l, qf4_0, qf4_1, qf4_2, qf4_3, qf2_0, qf2_1, qcs_n, qcs_i, qcs_r, qcs_l, qst_n, qst_c, qJ_0, qJ_st, qJ_go, qfl_I, qfl_Z, qfl_L, qfl_R, qrI_i, qrL_l, qrV_v, qRcv_0, qRcv_s, eq_self, true_and, and_true, true_or, or_true, false_and, and_false, false_or, or_false, ite_true, if_true, if_false, Bool.true_or, Bool.false_or, Bool.or_false, beq_self_eq_true, Bool.false_eq_true, bX12_ahead_0, bX12_ahead_26, bX12_ahead_39, bX12_ahead_74, bX12_ahead_81, bX12_ahead_108, bX12_ahead_116, bX12_ahead_128, bX12_ahead_183, bX12_ahead_201, bX12_ahead_202, bX12_ahead_208, bX12_ahead_243, bX12_ahead_247, bX12_ahead_248, bX12_ahead_251, kX12_ahead_0, kX12_ahead_26, kX12_ahead_39, kX12_ahead_74, kX12_ahead_81, kX12_ahead_108, kX12_ahead_116, kX12_ahead_128, kX12_ahead_183, kX12_ahead_201, kX12_ahead_202, kX12_ahead_208, kX12_ahead_243, kX12_ahead_247, kX12_ahead_248, kX12_ahead_251, qK_139, qR_139_0, qK_140, qR_139_1, qK_141, qR_139_5, qK_142, qR_139_6, qK_143, qR_139_7, qK_144, qR_139_8, qK_145, qR_139_9, qK_146, qR_139_21, qK_147, qR_139_25, qK_148, qR_139_30, qK_149, qR_139_31, qK_150, qR_139_33, qK_151, qR_139_34, qK_152, qR_139_35, qK_153, qR_139_36, qK_154, qR_139_39, qK_155, qR_139_40, qK_156, qR_139_41, qK_157]
    simp only [e1]
    have t2 : zTt (qwi σ1 139 13 (nI q)) B n := t1.f (P := zPa) (zF.wi ⟨rfl, by decide⟩) (fun j hp => by unfold zPa at hp; omega) (fun hp => by unfold zPa at hp; omega)
    simp only [qwi_1]
    simp (disch := omega) only [nI_leI, nI_ltI, nI_eq, nI_cl, qin_eq, nI_add, nI_mul, qb_z, qb_t, qb_f, nI_ne0', Nat.reduceAdd, Bool.false_eq_true, if_false, if_true, true_and, and_true, Nat.reduceEqDiff, not_true_eq_false, not_false_eq_true, false_implies, true_implies, ite_true, ite_false]
    simp only [e1]
    refine qBI.fn (m_byteAt hB t2 (by omega)) (by decide) ?_
    rw [zcI_no hc]
    have f3 : zF zPa σ (qwi (qwi σ1 139 13 (nI q)) 139 15 (zcI (B q))) := (f1.tr (zF.wi ⟨rfl, by decide⟩)).tr (zF.wi ⟨rfl, by decide⟩)
    have g1 : (qwi (qwi σ1 139 13 (nI q)) 139 15 (zcI (B q))).1 139 14 = nI q := by
      rw [qwi_1, if_neg (by decide), qwi_1, if_neg (by decide)]; exact e1
    have g2 : (qwi (qwi σ1 139 13 (nI q)) 139 15 (zcI (B q))).1 139 13 = nI (tkS B p) := by
      rw [qwi_1, if_neg (by decide), qwi_1, if_pos ⟨rfl, rfl⟩, eq]
    have g3 : (qwi (qwi σ1 139 13 (nI q)) 139 15 (zcI (B q))).1 139 15 = zcI (B q) := by
      rw [qwi_1, if_pos ⟨rfl, rfl⟩]
    generalize qwi (qwi σ1 139 13 (nI q)) 139 15 (zcI (B q)) = σ3 at f3 g1 g2 g3 ⊢
    clear ih
    subst eq
    have t3 := h.a f3
    refine ⟨fun h9 => ?_, fun h9 => ?_⟩
    · -- not the end
      refine qBI.fn (m_isSmall σ3 hc) (by decide) ?_
      simp (disch := omega) only [nI_leI, nI_ltI, nI_eq, nI_cl, qin_eq, nI_add, nI_mul, qb_z, qb_t, qb_f, nI_ne0', Nat.reduceAdd, Bool.false_eq_true, if_false, if_true, true_and, and_true, Nat.reduceEqDiff, not_true_eq_false, not_false_eq_true, false_implies, true_implies, ite_true, ite_false]
      refine ⟨fun h8 => ?_, fun h8 => ?_⟩
      · refine qBI.fn (m_isDigit σ3 hc) (by decide) ?_
        simp (disch := omega) only [nI_leI, nI_ltI, nI_eq, nI_cl, qin_eq, nI_add, nI_mul, qb_z, qb_t, qb_f, nI_ne0', Nat.reduceAdd, Bool.false_eq_true, if_false, if_true, true_and, and_true, Nat.reduceEqDiff, not_true_eq_false, not_false_eq_true, false_implies, true_implies, ite_true, ite_false]
        refine ⟨fun h7 => ?_, fun h7 => ?_⟩
        · -- a sign, or none
          have eE : tkE B p = tkS B p + 1 := by unfold tkE; rw [if_neg h9, if_neg (by rw [h8]; decide), if_neg (by rw [h7]; decide)]
          have eK : tkK B p = if zsi (B (tkS B p)) = true then 4 else 1 := by unfold tkK; rw [if_neg h9, if_neg (by rw [h8]; decide), if_neg (by rw [h7]; decide)]
          have fin : ∀ k, tkK B p = k → (k = 1 ∨ k = 4) → qV 231 2 (.inr (.inr fun σ' => zTk σ' B n p ∧ zF zPa σ σ')) 251 [some (qr 139), some (qi (zcI (B (tkS B p))))] [] (qwi (qwi σ3 139 14 (σ3.1 139 14 + nI 1)) 139 12 (nI k)) := fun k hk h14 => by
            refine ahead_end h ((f3.tr (zF.wi ⟨rfl, by decide⟩)).tr (zF.wi ⟨rfl, by decide⟩)) (k := k) (e := tkS B p + 1) (v := zcI (B (tkS B p))) (by rw [qwi_1, if_pos ⟨rfl, rfl⟩]) hk ?_ ?_ eE ?_ ?_
            · rw [qwi_1, if_neg (by decide), qwi_1, if_neg (by decide)]; exact g2
            · rw [qwi_1, if_neg (by decide), qwi_1, if_pos ⟨rfl, rfl⟩, g1, nI_add]
            · rw [qwi_1, if_neg (by decide), qwi_1, if_neg (by decide)]; exact g3
            · intro _
              rw [tkV_s (by omega)]
              unfold zcI
              rw [if_neg h9]
          rw [zcI_eq hc (by decide), zcI_eq hc (by decide), zcI_eq hc (by decide), zcI_eq hc (by decide)]
          have hz : ∀ k, zsi (B (tkS B p)) = true → k = 4 → tkK B p = k := fun k h1 h2 => by rw [eK, if_pos h1, h2]
          refine ⟨fun k1 => fin 4 (hz 4 (by unfold zsi; simp; omega) rfl) (Or.inr rfl), fun k1 => ⟨fun k2 => fin 4 (hz 4 (by unfold zsi; simp; omega) rfl) (Or.inr rfl), fun k2 => ⟨fun k3 => fin 4 (hz 4 (by unfold zsi; simp; omega) rfl) (Or.inr rfl), fun k3 => ⟨fun k4 => fin 1 ?_ (Or.inl rfl), fun k4 => fin 4 (hz 4 (by unfold zsi; simp; omega) rfl) (Or.inr rfl)⟩⟩⟩⟩
          rw [eK, if_neg]
          unfold zsi
          simp
          omega
        · -- a number
          have hD := tkD_spec hB hs.2.1
          have h7' : zdi (B (tkS B p)) = true := by simpa using h7
          have eE : tkE B p = tkD B (tkS B p) := by unfold tkE; rw [if_neg h9, if_neg (by rw [h8]; decide), if_pos h7']
          have eK : tkK B p = if 4 < tkE B p - tkS B p then 1 else 3 := by unfold tkK; rw [if_neg h9, if_neg (by rw [h8]; decide), if_pos h7']
          refine qdown (n := tkD B (tkS B p)) (P := fun r => tkS B p ≤ r → ∀ σ4 v, v ≤ 100000 → (r - tkS B p ≤ 4 → v = zval B (tkS B p) (r - tkS B p)) → zF zPa σ σ4 → σ4.1 139 14 = nI r → σ4.1 139 13 = nI (tkS B p) → σ4.1 139 15 = nI v → qV 231 2 (.inr (.inr fun σ' => zTk σ' B n p ∧ zF zPa σ σ')) 128 [some (qr 139), some (qi (zcI (B (tkS B p))))] [] σ4) (fun r hr ih => ?_) (tkS B p) hD.1 (Nat.le_refl _) _ 0 (by decide) (fun _ => by rw [Nat.sub_self]; rfl) (f3.tr (zF.wi ⟨rfl, by decide⟩)) (by rw [qwi_1, if_neg (by decide)]; exact g1) (by rw [qwi_1, if_neg (by decide)]; exact g2) (by rw [qwi_1, if_pos ⟨rfl, rfl⟩])
          intro hsr σ4 v hv hv4 f4 e4 b4 c4
          have hcr := zB_k hB r
          refine qV.go 30 [128, 251] ok_231 ?_
          simp only [qW_nop, qW_iconst, qW_iconstm, qW_bipush, qW_ldc, qW_iloadn, qW_aloadn, qW_istoren, qW_iadd, qW_isub, qW_imul, qW_dup, qW_ifeq, qW_iceq, qW_icne, qW_icle, qW_goto, qW_getf, qW_vret, qW_cs1_0, qW_cv2_0, qW_mmin, qW_putf0, Nat.reduceAdd, Nat.reduceMul, Nat.reduceBEq, Nat.reduceEqDiff, Nat.reduceLT, Nat.reduceLeDiff, Nat.zero_le, nI_add, nI_mul, nI_cl, qin_eq, qofI, qlg_0, qlg_s, qls_i0, qls_r0, qls_l0, qls_1, qls_2, qkl_i, qkl_r, qkl_l, qkl_n, qIsI_i, qIsL_l, qIsR_r, qint_i, qil_i, qil_r, qil_l, qf4_0, qf4_1, qf4_2, qf4_3, qf2_0, qf2_1, qcs_n, qcs_i, qcs_r, qcs_l, qst_n, qst_c, qJ_0, qJ_st, qJ_go, qfl_I, qfl_Z, qfl_L, qfl_R, qrI_i, qrL_l, qrV_v, qRcv_0, qRcv_s, eq_self, true_and, and_true, true_or, or_true, false_and, and_false, false_or, or_false, ite_true, if_true, if_false, Bool.true_or, Bool.false_or, Bool.or_false, beq_self_eq_true, Bool.false_eq_true, bX12_ahead_0, bX12_ahead_26, bX12_ahead_39, bX12_ahead_74, bX12_ahead_81, bX12_ahead_108, bX12_ahead_116, bX12_ahead_128, bX12_ahead_183, bX12_ahead_201, bX12_ahead_202, bX12_ahead_208, bX12_ahead_243, bX12_ahead_247, bX12_ahead_248, bX12_ahead_251, kX12_ahead_0, kX12_ahead_26, kX12_ahead_39, kX12_ahead_74, kX12_ahead_81, kX12_ahead_108, kX12_ahead_116, kX12_ahead_128, kX12_ahead_183, kX12_ahead_201, kX12_ahead_202, kX12_ahead_208, kX12_ahead_243, kX12_ahead_247, kX12_ahead_248, kX12_ahead_251, qK_139, qR_139_0, qK_140, qR_139_1, qK_141, qR_139_5, qK_142, qR_139_6, qK_143, qR_139_7, qK_144, qR_139_8, qK_145, qR_139_9, qK_146, qR_139_21, qK_147, qR_139_25, qK_148, qR_139_30, qK_149, qR_139_31, qK_150, qR_139_33, qK_151, qR_139_34, qK_152, qR_139_35, qK_153, qR_139_36, qK_154, qR_139_39, qK_155, qR_139_40, qK_156, qR_139_41, qK_157]
          rw [e4]
          refine qBI.fn (m_byteAt hB (h.a f4) (by omega)) (by decide) (qBI.fn (m_isDigit σ4 hcr) (by decide) ?_)
          simp (disch := omega) only [nI_leI, nI_ltI, nI_eq, nI_cl, qin_eq, nI_add, nI_mul, qb_z, qb_t, qb_f, nI_ne0', Nat.reduceAdd, Bool.false_eq_true, if_false, if_true, true_and, and_true, Nat.reduceEqDiff, not_true_eq_false, not_false_eq_true, false_implies, true_implies, ite_true, ite_false]
          by_cases hlt : r < tkD B (tkS B p)
          · have hd := hD.2.2.2 r hsr hlt
            refine ⟨fun h6 => by rw [hd] at h6; exact absurd h6 (by decide), fun _ => ?_⟩
            simp only [e4]
            refine qBI.fn (m_byteAt hB (h.a f4) (by omega)) (by decide) ?_
            simp only [zdi, Bool.and_eq_true, decide_eq_true_eq] at hd
            have ez : zcI (B r) = nI (B r) := by unfold zcI; rw [if_neg (by omega)]
            rw [ez, c4, nI_mul, nI_add, nI_sub (by omega), qmin_nI (by decide) (by omega)]
            rw [show ∀ x, (qwi σ4 139 15 x).1 139 14 = nI r from fun x => by rw [qwi_1, if_neg (by decide)]; exact e4, nI_add]
            refine ih hlt (by omega) _ (if 10 * v + B r - 48 < 100000 then 10 * v + B r - 48 else 100000) (by split <;> omega) (fun h4 => ?_) ((f4.tr (zF.wi ⟨rfl, by decide⟩)).tr (zF.wi ⟨rfl, by decide⟩)) (by rw [qwi_1, if_pos ⟨rfl, rfl⟩]) (by rw [qwi_1, if_neg (by decide), qwi_1, if_neg (by decide)]; exact b4) (by rw [qwi_1, if_neg (by decide), qwi_1, if_pos ⟨rfl, rfl⟩])
            have hz := zval_lt (B := B) (s := tkS B p) (r - tkS B p) (fun i hi => hD.2.2.2 _ (by omega) (by omega))
            have h3 : 10 ^ (r - tkS B p) ≤ 10 ^ 3 := Nat.pow_le_pow_right (by decide) (by omega)
            rw [← hv4 (by omega)] at hz
            rw [if_pos (by omega), show r + 1 - tkS B p = (r - tkS B p) + 1 by omega, zval, ← hv4 (by omega), show tkS B p + (r - tkS B p) = r by omega]
            omega
          · have er : r = tkD B (tkS B p) := by omega
            subst er
            refine ⟨fun _ => ?_, fun h6 => absurd hD.2.2.1 (by simpa using h6)⟩
            rw [e4, b4, nI_sub hsr]
            simp (disch := omega) only [nI_leI, nI_ltI, nI_eq, nI_cl, qin_eq, nI_add, nI_mul, qb_z, qb_t, qb_f, nI_ne0', Nat.reduceAdd, Bool.false_eq_true, if_false, if_true, true_and, and_true, Nat.reduceEqDiff, not_true_eq_false, not_false_eq_true, false_implies, true_implies, ite_true, ite_false]
            have fin : ∀ k, tkK B p = k → (k = 3 → σ4.1 139 15 = nI (tkV B p)) → (k = 1 ∨ k = 3) → qV 231 2 (.inr (.inr fun σ' => zTk σ' B n p ∧ zF zPa σ σ')) 251 [some (qr 139), some (qi (zcI (B (tkS B p))))] [] (qwi σ4 139 12 (nI k)) := fun k hk hv h13 =>
              ahead_end h (f4.tr (zF.wi ⟨rfl, by decide⟩)) (k := k) (by rw [qwi_1, if_pos ⟨rfl, rfl⟩]) hk (by rw [qwi_1, if_neg (by decide)]; exact b4) (by rw [qwi_1, if_neg (by decide)]; exact e4) eE rfl (fun h => by rw [qwi_1, if_neg (by decide)]; exact hv (by omega))
            refine ⟨fun h4 => fin 3 (by rw [eK, if_neg (by omega)]) (fun _ => ?_) (Or.inr rfl), fun h4 => fin 1 (by rw [eK, if_pos (by omega)]) (fun h => by omega) (Or.inl rfl)⟩
            rw [c4, hv4 h4]
            unfold tkV
            rw [if_pos (by rw [eK, if_neg (by omega)]), eE]
      · -- a word
        have hA := tkA_spec hB hs.2.1
        have h8' : zsm (B (tkS B p)) = true := by simpa using h8
        have eE : tkE B p = tkA B (tkS B p) := by unfold tkE; rw [if_neg h9, if_pos h8']
        have eK : tkK B p = 2 := by unfold tkK; rw [if_neg h9, if_pos h8']
        refine qdown (n := tkA B (tkS B p)) (P := fun r => tkS B p ≤ r → ∀ σ4, zF zPa σ σ4 → σ4.1 139 14 = nI r → σ4.1 139 13 = nI (tkS B p) → qV 231 2 (.inr (.inr fun σ' => zTk σ' B n p ∧ zF zPa σ σ')) 81 [some (qr 139), some (qi (zcI (B (tkS B p))))] [] σ4) (fun r hr ih => ?_) (tkS B p) hA.1 (Nat.le_refl _) _ f3 g1 g2
        intro hsr σ4 f4 e4 b4
        have hcr := zB_k hB r
        refine qV.go 30 [81, 251] ok_231 ?_
        simp only [qW_nop, qW_iconst, qW_iconstm, qW_bipush, qW_ldc, qW_iloadn, qW_aloadn, qW_istoren, qW_iadd, qW_isub, qW_imul, qW_dup, qW_ifeq, qW_iceq, qW_icne, qW_icle, qW_goto, qW_getf, qW_vret, qW_cs1_0, qW_cv2_0, qW_mmin, qW_putf0, Nat.reduceAdd, Nat.reduceMul, Nat.reduceBEq, Nat.reduceEqDiff, Nat.reduceLT, Nat.reduceLeDiff, Nat.zero_le, nI_add, nI_mul, nI_cl, qin_eq, qofI, qlg_0, qlg_s, qls_i0, qls_r0, qls_l0, qls_1, qls_2, qkl_i, qkl_r, qkl_l, qkl_n, qIsI_i, qIsL_l, qIsR_r, qint_i, qil_i, qil_r, qil_l, qf4_0, qf4_1, qf4_2, qf4_3, qf2_0, qf2_1, qcs_n, qcs_i, qcs_r, qcs_l, qst_n, qst_c, qJ_0, qJ_st, qJ_go, qfl_I, qfl_Z, qfl_L, qfl_R, qrI_i, qrL_l, qrV_v, qRcv_0, qRcv_s, eq_self, true_and, and_true, true_or, or_true, false_and, and_false, false_or, or_false, ite_true, if_true, if_false, Bool.true_or, Bool.false_or, Bool.or_false, beq_self_eq_true, Bool.false_eq_true, bX12_ahead_0, bX12_ahead_26, bX12_ahead_39, bX12_ahead_74, bX12_ahead_81, bX12_ahead_108, bX12_ahead_116, bX12_ahead_128, bX12_ahead_183, bX12_ahead_201, bX12_ahead_202, bX12_ahead_208, bX12_ahead_243, bX12_ahead_247, bX12_ahead_248, bX12_ahead_251, kX12_ahead_0, kX12_ahead_26, kX12_ahead_39, kX12_ahead_74, kX12_ahead_81, kX12_ahead_108, kX12_ahead_116, kX12_ahead_128, kX12_ahead_183, kX12_ahead_201, kX12_ahead_202, kX12_ahead_208, kX12_ahead_243, kX12_ahead_247, kX12_ahead_248, kX12_ahead_251, qK_139, qR_139_0, qK_140, qR_139_1, qK_141, qR_139_5, qK_142, qR_139_6, qK_143, qR_139_7, qK_144, qR_139_8, qK_145, qR_139_9, qK_146, qR_139_21, qK_147, qR_139_25, qK_148, qR_139_30, qK_149, qR_139_31, qK_150, qR_139_33, qK_151, qR_139_34, qK_152, qR_139_35, qK_153, qR_139_36, qK_154, qR_139_39, qK_155, qR_139_40, qK_156, qR_139_41, qK_157]
        rw [e4]
        refine qBI.fn (m_byteAt hB (h.a f4) (by omega)) (by decide) (qBI.fn (m_isSmall σ4 hcr) (by decide) ?_)
        simp (disch := omega) only [nI_leI, nI_ltI, nI_eq, nI_cl, qin_eq, nI_add, nI_mul, qb_z, qb_t, qb_f, nI_ne0', Nat.reduceAdd, Bool.false_eq_true, if_false, if_true, true_and, and_true, Nat.reduceEqDiff, not_true_eq_false, not_false_eq_true, false_implies, true_implies, ite_true, ite_false]
        by_cases hlt : r < tkA B (tkS B p)
        · have hd := hA.2.2.2 r hsr hlt
          refine ⟨fun h6 => by rw [hd] at h6; exact absurd h6 (by decide), fun _ => ?_⟩
          rw [e4, nI_add]
          refine ih hlt (by omega) _ (f4.tr (zF.wi ⟨rfl, by decide⟩)) (by rw [qwi_1, if_pos ⟨rfl, rfl⟩]) (by rw [qwi_1, if_neg (by decide)]; exact b4)
        · have er : r = tkA B (tkS B p) := by omega
          subst er
          refine ⟨fun _ => ?_, fun h6 => absurd hA.2.2.1 (by simpa using h6)⟩
          exact ahead_end h (f4.tr (zF.wi ⟨rfl, by decide⟩)) (by rw [qwi_1, if_pos ⟨rfl, rfl⟩]) eK (by rw [qwi_1, if_neg (by decide)]; exact b4) (by rw [qwi_1, if_neg (by decide)]; exact e4) eE rfl (fun h => by omega)
    · have eE : tkE B p = tkS B p := by unfold tkE; rw [if_pos h9]
      have eK : tkK B p = 0 := by unfold tkK; rw [if_pos h9]
      exact ahead_end h (f3.tr (zF.wi ⟨rfl, by decide⟩)) (by rw [qwi_1, if_pos ⟨rfl, rfl⟩]) eK (by rw [qwi_1, if_neg (by decide)]; exact g2) (by rw [qwi_1, if_neg (by decide)]; exact g1) eE rfl (fun h => by omega)
