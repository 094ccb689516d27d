/-! the reference: names that stand in a text -/
def zpre (B : Nat → Nat) (s j : Nat) : List Nat := (List.range j).map (fun i => B (s + i))
theorem zpre_s (B : Nat → Nat) (s j : Nat) : zpre B s (j + 1) = zpre B s j ++ [B (s + j)] := by
  unfold zpre
  rw [List.range_succ, List.map_append]
  rfl
theorem zlst_no (p : Nat → Bool) : ∀ (f n : Nat), (∀ m, n ≤ m → m < n + f → p m = false) → zlst p f n = n + f
  | 0, _, _ => rfl
  | f + 1, n, h => by
    simp only [zlst]
    rw [if_neg (by rw [h n (Nat.le_refl _) (by omega)]; decide), zlst_no p f (n + 1) (fun m h1 h2 => h m (by omega) (by omega))]
    omega
theorem zfd_is {N : Nat → List Nat} {w : List Nat} {m b : Nat} (hb : b < m) (h : N b = w) (hn : ∀ i, i < b → N i ≠ w) : zfd N w m = b :=
  zlst_is _ m 0 b (Nat.zero_le _) (by omega) (by simp [h]) (fun i _ h2 => by simp [hn i h2])
theorem zfd_no {N : Nat → List Nat} {w : List Nat} {m : Nat} (hn : ∀ i, i < m → N i ≠ w) : zfd N w m = m := by
  have := zlst_no (fun b => decide (N b = w)) m 0 (fun i _ h2 => by simp [hn i (by omega)])
  unfold zfd
  omega
theorem zfd_N {N : Nat → List Nat} {w : List Nat} {m : Nat} (h : zfd N w m < m) : N (zfd N w m) = w := by
  have key : ∀ (f n : Nat), zlst (fun b => decide (N b = w)) f n < n + f → N (zlst (fun b => decide (N b = w)) f n) = w := by
    intro f
    induction f with
    | zero => intro n h; exact absurd h (Nat.lt_irrefl _)
    | succ f ih =>
      intro n h
      simp only [zlst] at h ⊢
      by_cases e : N n = w
      · simpa [e] using e
      · rw [if_neg (by simp [e])] at h ⊢
        exact ih (n + 1) (by omega)
  have := key m 0 (by unfold zfd at h; omega)
  exact this
set_option maxRecDepth 20000 in
theorem m_isName {σ : qSg} {B : Nat → Nat} {n p : Nat} (hB : zBW B n) (hp : p ≤ n) (h : zTk σ B n p) : qFI 6 239 [qr 139, qr 1000] σ (qb (zisN B p)) := by
  have h900 := hB.1
  have hs := tkE_spec hB hp
  have hk5 := tkK_lt B p
  have hy := tkY_le B p
  refine qCI.of [some (qr 139), some (qr 1000)] ok_239 (Nat.le_of_ble_eq_true rfl) rfl ?_
  refine qV.go 30 [9999] ok_239 ?_
  simp only [qW_nop, qW_iconst, qW_iconstm, qW_bipush, qW_aloadn, qW_isub, qW_icne, qW_icgt, qW_goto, qW_getf, qW_cv2_0, qW_iret1, Nat.reduceAdd, Nat.reduceMul, Nat.reduceBEq, Nat.reduceEqDiff, Nat.reduceLT, Nat.reduceLeDiff, Nat.zero_le, nI_add, nI_mul, nI_cl, qin_eq, qofI, qlg_0, qlg_s, qls_i0, qls_r0, qls_l0, qls_1, qls_2, qkl_i, qkl_r, qkl_l, qkl_n, qIsI_i, qIsL_l, qIsR_r, qint_i, qil_i, qil_r, qil_l, qf4_0, qf4_1, qf4_2, qf4_3, qf2_0, qf2_1, qcs_n, qcs_i, qcs_r, qcs_l, qst_n, qst_c, qJ_0, qJ_st, qJ_go, qfl_I, qfl_Z, qfl_L, qfl_R, qrI_i, qrL_l, qrV_v, qRcv_0, qRcv_s, eq_self, true_and, and_true, true_or, or_true, false_and, and_false, false_or, or_false, ite_true, if_true, if_false, Bool.true_or, Bool.false_or, Bool.or_false, beq_self_eq_true, Bool.false_eq_true, bX12_isName_0, bX12_isName_35, bX12_isName_36, kX12_isName_0, kX12_isName_35, kX12_isName_36, qK_139, qR_139_0, qK_140, qR_139_1, qK_141, qR_139_5, qK_142, qR_139_6, qK_143, qR_139_7, qK_144, qR_139_8, qK_145, qR_139_9, qK_146, qR_139_21, qK_147, qR_139_25, qK_148, qR_139_30, qK_149, qR_139_31, qK_150, qR_139_33, qK_151, qR_139_34, qK_152, qR_139_35, qK_153, qR_139_36, qK_154, qR_139_39, qK_155, qR_139_40, qK_156, qR_139_41, qK_157]
  rw [h.2.1, h.2.2.1, h.2.2.2.1, nI_sub hs.2.1]
  simp (disch := omega) only [nI_leI, nI_ltI, nI_eq, nI_cl, qin_eq, nI_add, nI_mul, qb_z, qb_t, qb_f, nI_ne0', Nat.reduceAdd, Bool.false_eq_true, if_false, if_true, true_and, and_true, Nat.reduceEqDiff, not_true_eq_false, not_false_eq_true, false_implies, true_implies, ite_true, ite_false]
  unfold zisN
  by_cases e1 : tkK B p = 2
  · by_cases e2 : tkE B p - tkS B p ≤ 8
    · refine ⟨fun g => absurd e1 g, fun _ => ⟨fun g => by omega, fun _ => ?_⟩⟩
      refine qBI.fn (m_inWords hB hp h) (by decide) ?_
      have e3 : (zkI (tkY B p) = iI (-1)) = (tkY B p = 22) := by
        unfold zkI
        apply propext
        by_cases g : tkY B p < 22
        · rw [if_pos g, qeq, nI_t (by omega), iI_toInt (by decide) (by decide)]
          omega
        · rw [if_neg g]
          exact ⟨fun _ => by omega, fun _ => rfl⟩
      rw [e3]
      by_cases e4 : tkY B p = 22 <;> simp [e1, e2, e4, qb]
    · refine ⟨fun g => absurd e1 g, fun _ => ⟨fun g => ?_, fun g => by omega⟩⟩
      simp [e2, qb]
  · refine ⟨fun _ => ?_, fun g => absurd g e1⟩
    simp [e1, qb]
set_option maxRecDepth 20000 in
theorem m_nameHere {σ : qSg} {B : Nat → Nat} {n p : Nat} (hB : zBW B n) (hp : p ≤ n) (h : zTk σ B n p) : qFL 2 240 [qr 139] σ (zcr2 (tkW B p)) := by
  have h900 := hB.1
  have hs := tkE_spec hB hp
  refine qCL.of [some (qr 139), none, none, none] ok_240 (Nat.le_of_ble_eq_true rfl) rfl ?_
  refine qV.go 30 [7] ok_240 ?_
  simp only [qW_nop, qW_bipush, qW_lconst, qW_iloadn, qW_lloadn, qW_aloadn, qW_istoren, qW_lstoren, qW_iinc, qW_lor, qW_lshl, qW_i2l, qW_icge, qW_goto, qW_getf, qW_lret, qW_cv2_0, Nat.reduceAdd, Nat.reduceMul, Nat.reduceBEq, Nat.reduceEqDiff, Nat.reduceLT, Nat.reduceLeDiff, Nat.zero_le, nI_add, nI_mul, nI_cl, qin_eq, qofI, qlg_0, qlg_s, qls_i0, qls_r0, qls_l0, qls_1, qls_2, qkl_i, qkl_r, qkl_l, qkl_n, qIsI_i, qIsL_l, qIsR_r, qint_i, qil_i, qil_r, qil_l, qf4_0, qf4_1, qf4_2, qf4_3, qf2_0, qf2_1, qcs_n, qcs_i, qcs_r, qcs_l, qst_n, qst_c, qJ_0, qJ_st, qJ_go, qfl_I, qfl_Z, qfl_L, qfl_R, qrI_i, qrL_l, qrV_v, qRcv_0, qRcv_s, eq_self, true_and, and_true, true_or, or_true, false_and, and_false, false_or, or_false, ite_true, if_true, if_false, Bool.true_or, Bool.false_or, Bool.or_false, beq_self_eq_true, Bool.false_eq_true, bX12_nameHere_0, bX12_nameHere_7, bX12_nameHere_33, kX12_nameHere_0, kX12_nameHere_7, kX12_nameHere_33, qK_139, qR_139_0, qK_140, qR_139_1, qK_141, qR_139_5, qK_142, qR_139_6, qK_143, qR_139_7, qK_144, qR_139_8, qK_145, qR_139_9, qK_146, qR_139_21, qK_147, qR_139_25, qK_148, qR_139_30, qK_149, qR_139_31, qK_150, qR_139_33, qK_151, qR_139_34, qK_152, qR_139_35, qK_153, qR_139_36, qK_154, qR_139_39, qK_155, qR_139_40, qK_156, qR_139_41, qK_157]
  rw [h.2.2.1]
  refine qdown (n := tkE B p - tkS B p) (P := fun j => qV 240 2 (.inr (.inl fun r σ' => r = zcr2 (tkW B p) ∧ σ' = σ)) 7 [some (qr 139), some (ql (lN (zcg 256 0 (zpre B (tkS B p) j)))), none, some (qi (nI (tkS B p + j)))] [] σ) (fun j hj ih => ?_) 0 (Nat.zero_le _)
  refine qV.go 30 [7] ok_240 ?_
  simp only [qW_nop, qW_bipush, qW_lconst, qW_iloadn, qW_lloadn, qW_aloadn, qW_istoren, qW_lstoren, qW_iinc, qW_lor, qW_lshl, qW_i2l, qW_icge, qW_goto, qW_getf, qW_lret, qW_cv2_0, Nat.reduceAdd, Nat.reduceMul, Nat.reduceBEq, Nat.reduceEqDiff, Nat.reduceLT, Nat.reduceLeDiff, Nat.zero_le, nI_add, nI_mul, nI_cl, qin_eq, qofI, qlg_0, qlg_s, qls_i0, qls_r0, qls_l0, qls_1, qls_2, qkl_i, qkl_r, qkl_l, qkl_n, qIsI_i, qIsL_l, qIsR_r, qint_i, qil_i, qil_r, qil_l, qf4_0, qf4_1, qf4_2, qf4_3, qf2_0, qf2_1, qcs_n, qcs_i, qcs_r, qcs_l, qst_n, qst_c, qJ_0, qJ_st, qJ_go, qfl_I, qfl_Z, qfl_L, qfl_R, qrI_i, qrL_l, qrV_v, qRcv_0, qRcv_s, eq_self, true_and, and_true, true_or, or_true, false_and, and_false, false_or, or_false, ite_true, if_true, if_false, Bool.true_or, Bool.false_or, Bool.or_false, beq_self_eq_true, Bool.false_eq_true, bX12_nameHere_0, bX12_nameHere_7, bX12_nameHere_33, kX12_nameHere_0, kX12_nameHere_7, kX12_nameHere_33, qK_139, qR_139_0, qK_140, qR_139_1, qK_141, qR_139_5, qK_142, qR_139_6, qK_143, qR_139_7, qK_144, qR_139_8, qK_145, qR_139_9, qK_146, qR_139_21, qK_147, qR_139_25, qK_148, qR_139_30, qK_149, qR_139_31, qK_150, qR_139_33, qK_151, qR_139_34, qK_152, qR_139_35, qK_153, qR_139_36, qK_154, qR_139_39, qK_155, qR_139_40, qK_156, qR_139_41, qK_157]
  rw [h.2.2.2.1]
  simp (disch := omega) only [nI_leI, nI_ltI, nI_eq, nI_cl, qin_eq, nI_add, nI_mul, qb_z, qb_t, qb_f, nI_ne0', Nat.reduceAdd, Bool.false_eq_true, if_false, if_true, true_and, and_true, Nat.reduceEqDiff, not_true_eq_false, not_false_eq_true, false_implies, true_implies, ite_true, ite_false]
  refine ⟨fun g => ?_, fun g => ?_⟩
  · have e : j = tkE B p - tkS B p := by omega
    subst e
    rfl
  · refine qBI.fn (m_byteAt hB h.1 (by omega)) (by decide) ?_
    have hb := hB.2.1 (tkS B p + j) (by omega)
    have ec : zcI (B (tkS B p + j)) = nI (B (tkS B p + j)) := by unfold zcI; rw [if_neg (by omega)]
    rw [ec, lN_or _ _ hb]
    have := ih (by omega)
    rw [zpre_s, zcg_snoc, Nat.sub_zero] at this
    exact this
/-- the names that the reference keeps from base on -/
def zMN (σ : qSg) (base m : Nat) (N : Nat → List Nat) : Prop := ∀ b, b < m → σ.2 141 (base + b) = zcr2 (N b)
set_option maxRecDepth 20000 in
theorem m_findHere {σ : qSg} {B : Nat → Nat} {N : Nat → List Nat} {n p base m : Nat} (hB : zBW B n) (hp : p ≤ n) (h : zTk σ B n p) (hw : zNm (tkW B p)) (hN : zMN σ base m N) (hNW : zNW m N) (hm : m ≤ 8) (hb : base ≤ 32) : qFI 3 241 [qr 139, qi (nI base), qi (nI m)] σ (if zfd N (tkW B p) m = m then iI (-1) else nI (zfd N (tkW B p) m)) := by
  refine qCI.of [some (qr 139), some (qi (nI base)), some (qi (nI m)), none] ok_241 (Nat.le_of_ble_eq_true rfl) rfl ?_
  refine qV.go 30 [2] ok_241 ?_
  simp only [qW_nop, qW_iconst, qW_iconstm, qW_iloadn, qW_aloadn, qW_istoren, qW_iinc, qW_iadd, qW_lcmp, qW_ifne, qW_icge, qW_goto, qW_getf, qW_lald, qW_cv1_1, qW_iret0, Nat.reduceAdd, Nat.reduceMul, Nat.reduceBEq, Nat.reduceEqDiff, Nat.reduceLT, Nat.reduceLeDiff, Nat.zero_le, nI_add, nI_mul, nI_cl, qin_eq, qofI, qlg_0, qlg_s, qls_i0, qls_r0, qls_l0, qls_1, qls_2, qkl_i, qkl_r, qkl_l, qkl_n, qIsI_i, qIsL_l, qIsR_r, qint_i, qil_i, qil_r, qil_l, qf4_0, qf4_1, qf4_2, qf4_3, qf2_0, qf2_1, qcs_n, qcs_i, qcs_r, qcs_l, qst_n, qst_c, qJ_0, qJ_st, qJ_go, qfl_I, qfl_Z, qfl_L, qfl_R, qrI_i, qrL_l, qrV_v, qRcv_0, qRcv_s, eq_self, true_and, and_true, true_or, or_true, false_and, and_false, false_or, or_false, ite_true, if_true, if_false, Bool.true_or, Bool.false_or, Bool.or_false, beq_self_eq_true, Bool.false_eq_true, bX12_findHere_0, bX12_findHere_2, bX12_findHere_25, bX12_findHere_31, kX12_findHere_0, kX12_findHere_2, kX12_findHere_25, kX12_findHere_31, qK_139, qR_139_0, qK_140, qR_139_1, qK_141, qR_139_5, qK_142, qR_139_6, qK_143, qR_139_7, qK_144, qR_139_8, qK_145, qR_139_9, qK_146, qR_139_21, qK_147, qR_139_25, qK_148, qR_139_30, qK_149, qR_139_31, qK_150, qR_139_33, qK_151, qR_139_34, qK_152, qR_139_35, qK_153, qR_139_36, qK_154, qR_139_39, qK_155, qR_139_40, qK_156, qR_139_41, qK_157]
  refine qdown (n := m) (P := fun q => (∀ i, i < q → N i ≠ tkW B p) → qV 241 3 (.inl fun r σ' => r = (if zfd N (tkW B p) m = m then iI (-1) else nI (zfd N (tkW B p) m)) ∧ σ' = σ) 2 [some (qr 139), some (qi (nI base)), some (qi (nI m)), some (qi (nI q))] [] σ) (fun q hq ih => ?_) 0 (Nat.zero_le _) (fun i hi => absurd hi (Nat.not_lt_zero _))
  intro hno
  refine qV.go 30 [2] ok_241 ?_
  simp only [qW_nop, qW_iconst, qW_iconstm, qW_iloadn, qW_aloadn, qW_istoren, qW_iinc, qW_iadd, qW_lcmp, qW_ifne, qW_icge, qW_goto, qW_getf, qW_lald, qW_cv1_1, qW_iret0, Nat.reduceAdd, Nat.reduceMul, Nat.reduceBEq, Nat.reduceEqDiff, Nat.reduceLT, Nat.reduceLeDiff, Nat.zero_le, nI_add, nI_mul, nI_cl, qin_eq, qofI, qlg_0, qlg_s, qls_i0, qls_r0, qls_l0, qls_1, qls_2, qkl_i, qkl_r, qkl_l, qkl_n, qIsI_i, qIsL_l, qIsR_r, qint_i, qil_i, qil_r, qil_l, qf4_0, qf4_1, qf4_2, qf4_3, qf2_0, qf2_1, qcs_n, qcs_i, qcs_r, qcs_l, qst_n, qst_c, qJ_0, qJ_st, qJ_go, qfl_I, qfl_Z, qfl_L, qfl_R, qrI_i, qrL_l, qrV_v, qRcv_0, qRcv_s, eq_self, true_and, and_true, true_or, or_true, false_and, and_false, false_or, or_false, ite_true, if_true, if_false, Bool.true_or, Bool.false_or, Bool.or_false, beq_self_eq_true, Bool.false_eq_true, bX12_findHere_0, bX12_findHere_2, bX12_findHere_25, bX12_findHere_31, kX12_findHere_0, kX12_findHere_2, kX12_findHere_25, kX12_findHere_31, qK_139, qR_139_0, qK_140, qR_139_1, qK_141, qR_139_5, qK_142, qR_139_6, qK_143, qR_139_7, qK_144, qR_139_8, qK_145, qR_139_9, qK_146, qR_139_21, qK_147, qR_139_25, qK_148, qR_139_30, qK_149, qR_139_31, qK_150, qR_139_33, qK_151, qR_139_34, qK_152, qR_139_35, qK_153, qR_139_36, qK_154, qR_139_39, qK_155, qR_139_40, qK_156, qR_139_41, qK_157]
  simp (disch := omega) only [nI_leI, nI_ltI, nI_eq, nI_cl, qin_eq, nI_add, nI_mul, qb_z, qb_t, qb_f, nI_ne0', Nat.reduceAdd, Bool.false_eq_true, if_false, if_true, true_and, and_true, Nat.reduceEqDiff, not_true_eq_false, not_false_eq_true, false_implies, true_implies, ite_true, ite_false]
  refine ⟨fun g => ?_, fun g => ?_⟩
  · have e : q = m := by omega
    subst e
    rw [if_pos (zfd_no hno)]
  · refine qBL.fn (m_nameHere hB hp h) (by decide) ?_
    have e1 : (lg_cmp (σ.2 141 (base + q)) (zcr2 (tkW B p)) = 0) = (N q = tkW B p) := by
      rw [qlcmp0, Int64.toInt_inj, hN q (by omega), zcr2_eq (hNW q (by omega)) hw]
    rw [e1]
    refine ⟨fun g2 => ?_, fun g2 => ?_⟩
    · exact ih (by omega) (fun i hi => by
        by_cases e : i = q
        · subst e; exact g2
        · exact hno i (by omega))
    · have e2 := zfd_is (m := m) (by omega) g2 hno
      rw [e2, if_neg (by omega)]
      exact ⟨rfl, rfl⟩
set_option maxRecDepth 20000 in
theorem m_isThere {σ : qSg} {B : Nat → Nat} {n p : Nat} (hB : zBW B n) (hp : p ≤ n) (h : zPd σ B n p) {k : Nat} (hk : k < 22) : qCI 6 246 [qr 139, qi (nI k)] σ (fun r σ' => if tkY B p = k then r = nI 1 ∧ zPd σ' B n (tkE B p) ∧ zF zPw σ σ' else r = nI 0 ∧ σ' = σ) := by
  refine qCI.of [some (qr 139), some (qi (nI k))] ok_246 (Nat.le_of_ble_eq_true rfl) rfl ?_
  refine qV.go 30 [9999] ok_246 ?_
  simp only [qW_nop, qW_iconst, qW_ldcs, qW_iloadn, qW_aloadn, qW_iceq, qW_cv1_2, qW_cv2_0, qW_iret1, Nat.reduceAdd, Nat.reduceMul, Nat.reduceBEq, Nat.reduceEqDiff, Nat.reduceLT, Nat.reduceLeDiff, Nat.zero_le, nI_add, nI_mul, nI_cl, qin_eq, qofI, qlg_0, qlg_s, qls_i0, qls_r0, qls_l0, qls_1, qls_2, qkl_i, qkl_r, qkl_l, qkl_n, qIsI_i, qIsL_l, qIsR_r, qint_i, qil_i, qil_r, qil_l, qf4_0, qf4_1, qf4_2, qf4_3, qf2_0, qf2_1, qcs_n, qcs_i, qcs_r, qcs_l, qst_n, qst_c, qJ_0, qJ_st, qJ_go, qfl_I, qfl_Z, qfl_L, qfl_R, qrI_i, qrL_l, qrV_v, qRcv_0, qRcv_s, eq_self, true_and, and_true, true_or, or_true, false_and, and_false, false_or, or_false, ite_true, if_true, if_false, Bool.true_or, Bool.false_or, Bool.or_false, beq_self_eq_true, Bool.false_eq_true, bX12_isThere_0, bX12_isThere_12, kX12_isThere_0, kX12_isThere_12, qK_139, qR_139_0, qK_140, qR_139_1, qK_141, qR_139_5, qK_142, qR_139_6, qK_143, qR_139_7, qK_144, qR_139_8, qK_145, qR_139_9, qK_146, qR_139_21, qK_147, qR_139_25, qK_148, qR_139_30, qK_149, qR_139_31, qK_150, qR_139_33, qK_151, qR_139_34, qK_152, qR_139_35, qK_153, qR_139_36, qK_154, qR_139_39, qK_155, qR_139_40, qK_156, qR_139_41, qK_157]
  refine qBI.fn (m_inWords hB hp h.1) (by decide) ?_
  rw [zkI_eq (tkY_le B p) hk]
  refine ⟨fun e => ?_, fun e => ?_⟩
  · refine qBV.of (m_next hB hp h) (by decide) (fun σ1 g => ?_)
    rw [if_pos e]
    exact ⟨g.1, zPa_w g.2⟩
  · rw [if_neg e]
set_option maxRecDepth 20000 in
theorem m_oldBoy {σ : qSg} {B : Nat → Nat} {N : Nat → List Nat} {n p base m t : Nat} (hB : zBW B n) (hp : p ≤ n) (h : zPd σ B n p) (hN : zMN σ base m N) (hNW : zNW m N) (hm : m ≤ 8) (hb : base ≤ 32) (ht : t < 3088) : qCI 7 247 [qr 139, qi (nI base), qi (nI m), qi (nI t)] σ (fun r σ' => zPo (zpB B N m p) r σ' (fun v => zPd σ' B n v.2 ∧ σ'.1 140 t = nI v.1) ∧ zF (zPto t) σ σ') := by
  have hw1 : ∀ {σ1 σ2 : qSg}, zF zPw σ1 σ2 → zF (zPto t) σ1 σ2 := fun f => f.wk fun _ _ h => Or.inl h
  refine qCI.of [some (qr 139), some (qi (nI base)), some (qi (nI m)), some (qi (nI t))] ok_247 (Nat.le_of_ble_eq_true rfl) rfl ?_
  refine qV.go 30 [9999] ok_247 ?_
  simp only [qW_nop, qW_iconst, qW_iconstm, qW_ldcs, qW_iloadn, qW_aloadn, qW_ifne, qW_icne, qW_getf, qW_iald, qW_iast, qW_cv1_2, qW_cv2_0, qW_cv3_0, qW_iret1, Nat.reduceAdd, Nat.reduceMul, Nat.reduceBEq, Nat.reduceEqDiff, Nat.reduceLT, Nat.reduceLeDiff, Nat.zero_le, nI_add, nI_mul, nI_cl, qin_eq, qofI, qlg_0, qlg_s, qls_i0, qls_r0, qls_l0, qls_1, qls_2, qkl_i, qkl_r, qkl_l, qkl_n, qIsI_i, qIsL_l, qIsR_r, qint_i, qil_i, qil_r, qil_l, qf4_0, qf4_1, qf4_2, qf4_3, qf2_0, qf2_1, qcs_n, qcs_i, qcs_r, qcs_l, qst_n, qst_c, qJ_0, qJ_st, qJ_go, qfl_I, qfl_Z, qfl_L, qfl_R, qrI_i, qrL_l, qrV_v, qRcv_0, qRcv_s, eq_self, true_and, and_true, true_or, or_true, false_and, and_false, false_or, or_false, ite_true, if_true, if_false, Bool.true_or, Bool.false_or, Bool.or_false, beq_self_eq_true, Bool.false_eq_true, bX12_oldBoy_0, bX12_oldBoy_15, bX12_oldBoy_43, kX12_oldBoy_0, kX12_oldBoy_15, kX12_oldBoy_43, qK_139, qR_139_0, qK_140, qR_139_1, qK_141, qR_139_5, qK_142, qR_139_6, qK_143, qR_139_7, qK_144, qR_139_8, qK_145, qR_139_9, qK_146, qR_139_21, qK_147, qR_139_25, qK_148, qR_139_30, qK_149, qR_139_31, qK_150, qR_139_33, qK_151, qR_139_34, qK_152, qR_139_35, qK_153, qR_139_36, qK_154, qR_139_39, qK_155, qR_139_40, qK_156, qR_139_41, qK_157]
  refine qBI.fn (m_isName hB hp h.1) (by decide) ?_
  simp (disch := omega) only [nI_leI, nI_ltI, nI_eq, nI_cl, qin_eq, nI_add, nI_mul, qb_z, qb_t, qb_f, nI_ne0', Nat.reduceAdd, Bool.false_eq_true, if_false, if_true, true_and, and_true, Nat.reduceEqDiff, not_true_eq_false, not_false_eq_true, false_implies, true_implies, ite_true, ite_false]
  refine ⟨fun e => ?_, fun e => ?_⟩
  · have e' : zisN B p = true := by simpa using e
    have hwm := tkW_Nm hB hp e'
    refine qBI.fn (m_findHere hB hp h.1 hwm hN hNW hm hb) (by decide) ?_
    have hle := zfd_le N (tkW B p) m
    have e0 : ∀ x : Int32, (qwi σ 140 t x).1 140 t = x := fun x => by rw [qwi_1, if_pos ⟨rfl, rfl⟩]
    simp only [e0]
    have h' : ∀ x, zPd (qwi σ 140 t x) B n p := by
      intro x
      obtain ⟨⟨t1, t2, t3, t4, t5⟩, t6, t7⟩ := h
      refine ⟨⟨⟨fun k hk => ?_, ?_⟩, ?_, ?_, ?_, fun hh => ?_⟩, ?_, ?_⟩
      · rw [qwi_1, if_neg (by omega)]; exact t1.1 k hk
      all_goals rw [qwi_1, if_neg (by omega)]
      · exact t1.2
      · exact t2
      · exact t3
      · exact t4
      · exact t5 hh
      · exact t6
      · exact t7
    by_cases e1 : zfd N (tkW B p) m = m
    · simp only [if_pos e1]
      refine ⟨fun g => absurd trivial g, fun _ => ?_⟩
      refine qBI.of (m_fails (h' _)) (by decide) (fun r σ1 g => ?_)
      obtain ⟨rfl, g1, g2⟩ := g
      exact ⟨Or.inl rfl, zPo_l (by unfold zpB; rw [if_neg (by rw [e']; decide), if_pos e1]) rfl g1, (zF.wi (Or.inr ⟨rfl, rfl⟩)).tr (hw1 g2)⟩
    · simp only [if_neg e1]
      refine ⟨fun _ => ?_, fun g => ?_⟩
      · refine qBV.of (m_next hB hp (h' _)) (by decide) (fun σ1 g => ?_)
        refine ⟨zPo_r (a := (zfd N (tkW B p) m, tkE B p)) (by unfold zpB; rw [if_neg (by rw [e']; decide), if_neg e1]) rfl ⟨g.1, ?_⟩, (zF.wi (Or.inr ⟨rfl, rfl⟩)).tr (hw1 (zPa_w g.2))⟩
        rw [g.2.1 _ _ (by unfold zPa; omega), e0]
      · exfalso
        rw [qeq, nI_t (by omega), iI_toInt (by decide) (by decide)] at g
        omega
  · refine qBI.of (m_fails h) (by decide) (fun r σ1 g => ?_)
    obtain ⟨rfl, g1, g2⟩ := g
    exact ⟨Or.inl rfl, zPo_l (by unfold zpB; rw [if_pos e]) rfl g1, hw1 g2⟩
