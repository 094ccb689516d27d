/-! the class: what lies ahead -/
theorem zCb_l : zCb 26 := Or.inr (Or.inr (Or.inl rfl))
theorem zCb_t : zCb 13 := Or.inr (Or.inl rfl)
theorem zCb_n : zCb 1 := Or.inl rfl
def zPah (a : Nat) (_ : Nat) : Prop := a = 38 ∨ a = 39
set_option maxRecDepth 20000 in
theorem x_begin {σ : qSg} {D : zC} (h : zX σ 26 D) (hw : zW D) : qCV 2 3 [qr 25] σ (fun σ' => (∀ b, b < D 0 0 → σ'.1 38 b = if zUp D b = true then nI 0 else iI (-1)) ∧ (∀ q, q < D 0 1 → σ'.1 39 q = if zOpen D q = true then iI (-1) else nI 0) ∧ zF zPah σ σ') := by
  have hw' := hw
  obtain ⟨wb, wq, ww1, ww2, wh1, wh2, wo, wm, wB, wQ⟩ := hw'
  have hu := zups_lt hw
  refine qCV.of [some (qr 25), none, none] ok_3 (Nat.le_of_ble_eq_true rfl) rfl ?_
  refine qV.go 30 [10] ok_3 ?_
  simp only [qW_nop, qW_iconst, qW_iconstm, qW_iloadn, qW_aloadn, qW_istoren, qW_iinc, qW_iand, qW_ishl, qW_ifeq, qW_icge, qW_goto, qW_getf, qW_iald, qW_iast, qW_vret, qW_cv1_0, Nat.reduceAdd, Nat.reduceMul, Nat.reduceBEq, Nat.reduceEqDiff, Nat.reduceLT, Nat.reduceLeDiff, Nat.zero_le, nI_add, nI_mul, nI_cl, qin_eq, qofI, qlg_0, qlg_s, qls_i0, qls_r0, qls_l0, qls_1, qls_2, qkl_i, qkl_r, qkl_l, qkl_n, qIsI_i, qIsL_l, qIsR_r, qint_i, qil_i, qil_r, qil_l, qf4_0, qf4_1, qf4_2, qf4_3, qf2_0, qf2_1, qcs_n, qcs_i, qcs_r, qcs_l, qst_n, qst_c, qJ_0, qJ_st, qJ_go, qfl_I, qfl_Z, qfl_L, qfl_R, qrI_i, qrL_l, qrV_v, qRcv_0, qRcv_s, eq_self, true_and, and_true, true_or, or_true, false_and, and_false, false_or, or_false, ite_true, if_true, if_false, Bool.true_or, Bool.false_or, Bool.or_false, beq_self_eq_true, Bool.false_eq_true, bX0_begin_0, bX0_begin_10, bX0_begin_38, bX0_begin_39, bX0_begin_46, bX0_begin_48, bX0_begin_80, bX0_begin_81, bX0_begin_88, kX0_begin_0, kX0_begin_10, kX0_begin_38, kX0_begin_39, kX0_begin_46, kX0_begin_48, kX0_begin_80, kX0_begin_81, kX0_begin_88, qK_25, qR_25_0, qK_26, qR_25_1, qK_38, qR_25_2, qK_39, qK_26, qR_26_6, qK_27, qR_26_7, qK_28, qR_26_8, qK_29, qR_26_9, qK_30, qR_26_10, qK_31, qR_26_11, qK_32, qR_26_12, qK_33, qR_26_13, qK_34, qR_26_14, qK_35, qR_26_15, qK_36, qR_26_16, qK_37]
  refine qBI.fn (x_upSet zCb_l h.1 hw) (by decide) ?_
  have second : ∀ σ2, zF zPah σ σ2 → (∀ b, b < D 0 0 → σ2.1 38 b = if zUp D b = true then nI 0 else iI (-1)) → ∀ q, q ≤ D 0 1 → (∀ i, i < q → σ2.1 39 i = if zOpen D i = true then iI (-1) else nI 0) → qV 3 2 (.inr (.inr fun σ' => (∀ b, b < D 0 0 → σ'.1 38 b = if zUp D b = true then nI 0 else iI (-1)) ∧ (∀ q, q < D 0 1 → σ'.1 39 q = if zOpen D q = true then iI (-1) else nI 0) ∧ zF zPah σ σ')) 48 [some (qr 25), some (qi (nI (zups D))), some (qi (nI q))] [] σ2 := by
    intro σ2 f2 a2 q hq a3
    refine qdown (n := D 0 1) (P := fun q => ∀ σ2, zF zPah σ σ2 → (∀ b, b < D 0 0 → σ2.1 38 b = if zUp D b = true then nI 0 else iI (-1)) → (∀ i, i < q → σ2.1 39 i = if zOpen D i = true then iI (-1) else nI 0) → qV 3 2 (.inr (.inr fun σ' => (∀ b, b < D 0 0 → σ'.1 38 b = if zUp D b = true then nI 0 else iI (-1)) ∧ (∀ q, q < D 0 1 → σ'.1 39 q = if zOpen D q = true then iI (-1) else nI 0) ∧ zF zPah σ σ')) 48 [some (qr 25), some (qi (nI (zups D))), some (qi (nI q))] [] σ2) (fun q hq ih => ?_) q hq σ2 f2 a2 a3
    intro σ2 f2 a2 a3
    have h2 : zX σ2 26 D := h.fr fun a j h1 h2 => f2.1 a j (by unfold zPah; omega)
    have eq : σ2.1 26 5 = nI (D 0 1) := h2.1.q
    refine qV.go 30 [48] ok_3 ?_
    simp only [qW_nop, qW_iconst, qW_iconstm, qW_iloadn, qW_aloadn, qW_istoren, qW_iinc, qW_iand, qW_ishl, qW_ifeq, qW_icge, qW_goto, qW_getf, qW_iald, qW_iast, qW_vret, qW_cv1_0, Nat.reduceAdd, Nat.reduceMul, Nat.reduceBEq, Nat.reduceEqDiff, Nat.reduceLT, Nat.reduceLeDiff, Nat.zero_le, nI_add, nI_mul, nI_cl, qin_eq, qofI, qlg_0, qlg_s, qls_i0, qls_r0, qls_l0, qls_1, qls_2, qkl_i, qkl_r, qkl_l, qkl_n, qIsI_i, qIsL_l, qIsR_r, qint_i, qil_i, qil_r, qil_l, qf4_0, qf4_1, qf4_2, qf4_3, qf2_0, qf2_1, qcs_n, qcs_i, qcs_r, qcs_l, qst_n, qst_c, qJ_0, qJ_st, qJ_go, qfl_I, qfl_Z, qfl_L, qfl_R, qrI_i, qrL_l, qrV_v, qRcv_0, qRcv_s, eq_self, true_and, and_true, true_or, or_true, false_and, and_false, false_or, or_false, ite_true, if_true, if_false, Bool.true_or, Bool.false_or, Bool.or_false, beq_self_eq_true, Bool.false_eq_true, bX0_begin_0, bX0_begin_10, bX0_begin_38, bX0_begin_39, bX0_begin_46, bX0_begin_48, bX0_begin_80, bX0_begin_81, bX0_begin_88, kX0_begin_0, kX0_begin_10, kX0_begin_38, kX0_begin_39, kX0_begin_46, kX0_begin_48, kX0_begin_80, kX0_begin_81, kX0_begin_88, qK_25, qR_25_0, qK_26, qR_25_1, qK_38, qR_25_2, qK_39, qK_26, qR_26_6, qK_27, qR_26_7, qK_28, qR_26_8, qK_29, qR_26_9, qK_30, qR_26_10, qK_31, qR_26_11, qK_32, qR_26_12, qK_33, qR_26_13, qK_34, qR_26_14, qK_35, qR_26_15, qK_36, qR_26_16, qK_37]
    rw [eq]
    simp (disch := omega) only [nI_leI, nI_ltI, nI_eq, nI_cl, qin_eq, nI_add, nI_mul, qb_z, qb_t, qb_f, nI_ne0', Nat.reduceAdd, Bool.false_eq_true, if_false, if_true, true_and, and_true, Nat.reduceEqDiff, not_true_eq_false, not_false_eq_true, false_implies, true_implies, ite_true, ite_false]
    refine ⟨fun g => ?_, fun g => ?_⟩
    · have : q = D 0 1 := by omega
      subst this
      exact ⟨a2, a3, f2⟩
    · have hq1 : q < D 0 1 := by omega
      have g9 := wQ q hq1
      have ee : σ2.1 37 q = nI (D 9 q) := h2.1.en hq1
      rw [ee]
      have nx : ∀ v, v = (if zOpen D q = true then iI (-1) else nI 0) → qV 3 2 (.inr (.inr fun σ' => (∀ b, b < D 0 0 → σ'.1 38 b = if zUp D b = true then nI 0 else iI (-1)) ∧ (∀ q, q < D 0 1 → σ'.1 39 q = if zOpen D q = true then iI (-1) else nI 0) ∧ zF zPah σ σ')) 48 [some (qr 25), some (qi (nI (zups D))), some (qi (nI (q + 1)))] [] (qwi σ2 39 q v) := fun v hv => by
        refine ih hq1 _ (f2.tr (zF.wi (Or.inr rfl))) (fun b hb => ?_) (fun i hi => ?_)
        · rw [qwi_1, if_neg (by omega)]; exact a2 b hb
        · rw [qwi_1]
          by_cases e : i = q
          · subst e; rw [if_pos ⟨rfl, rfl⟩]; exact hv
          · rw [if_neg (by omega)]; exact a3 i (by omega)
      simp (disch := omega) only [nI_leI, nI_ltI, nI_eq, nI_cl, qin_eq, nI_add, nI_mul, qb_z, qb_t, qb_f, nI_ne0', Nat.reduceAdd, Bool.false_eq_true, if_false, if_true, true_and, and_true, Nat.reduceEqDiff, not_true_eq_false, not_false_eq_true, false_implies, true_implies, ite_true, ite_false]
      refine ⟨fun h9 => nx _ ?_, fun h9 => nx _ ?_⟩
      · rw [if_pos (show zOpen D q = true from decide_eq_true h9)]
      · rw [if_neg (by unfold zOpen; rw [decide_eq_false h9]; decide)]
  refine qdown (n := D 0 0) (P := fun b => ∀ σ1, zF zPah σ σ1 → (∀ i, i < b → σ1.1 38 i = if zUp D i = true then nI 0 else iI (-1)) → qV 3 2 (.inr (.inr fun σ' => (∀ b, b < D 0 0 → σ'.1 38 b = if zUp D b = true then nI 0 else iI (-1)) ∧ (∀ q, q < D 0 1 → σ'.1 39 q = if zOpen D q = true then iI (-1) else nI 0) ∧ zF zPah σ σ')) 10 [some (qr 25), some (qi (nI (zups D))), some (qi (nI b))] [] σ1) (fun b hb ih => ?_) 0 (Nat.zero_le _) σ zF.rf (fun i hi => absurd hi (Nat.not_lt_zero _))
  intro σ1 f1 a1
  have h1 : zX σ1 26 D := h.fr fun a j h1 h2 => f1.1 a j (by unfold zPah; omega)
  have eb : σ1.1 26 4 = nI (D 0 0) := h1.1.b
  refine qV.go 30 [10, 48] ok_3 ?_
  simp only [qW_nop, qW_iconst, qW_iconstm, qW_iloadn, qW_aloadn, qW_istoren, qW_iinc, qW_iand, qW_ishl, qW_ifeq, qW_icge, qW_goto, qW_getf, qW_iald, qW_iast, qW_vret, qW_cv1_0, Nat.reduceAdd, Nat.reduceMul, Nat.reduceBEq, Nat.reduceEqDiff, Nat.reduceLT, Nat.reduceLeDiff, Nat.zero_le, nI_add, nI_mul, nI_cl, qin_eq, qofI, qlg_0, qlg_s, qls_i0, qls_r0, qls_l0, qls_1, qls_2, qkl_i, qkl_r, qkl_l, qkl_n, qIsI_i, qIsL_l, qIsR_r, qint_i, qil_i, qil_r, qil_l, qf4_0, qf4_1, qf4_2, qf4_3, qf2_0, qf2_1, qcs_n, qcs_i, qcs_r, qcs_l, qst_n, qst_c, qJ_0, qJ_st, qJ_go, qfl_I, qfl_Z, qfl_L, qfl_R, qrI_i, qrL_l, qrV_v, qRcv_0, qRcv_s, eq_self, true_and, and_true, true_or, or_true, false_and, and_false, false_or, or_false, ite_true, if_true, if_false, Bool.true_or, Bool.false_or, Bool.or_false, beq_self_eq_true, Bool.false_eq_true, bX0_begin_0, bX0_begin_10, bX0_begin_38, bX0_begin_39, bX0_begin_46, bX0_begin_48, bX0_begin_80, bX0_begin_81, bX0_begin_88, kX0_begin_0, kX0_begin_10, kX0_begin_38, kX0_begin_39, kX0_begin_46, kX0_begin_48, kX0_begin_80, kX0_begin_81, kX0_begin_88, qK_25, qR_25_0, qK_26, qR_25_1, qK_38, qR_25_2, qK_39, qK_26, qR_26_6, qK_27, qR_26_7, qK_28, qR_26_8, qK_29, qR_26_9, qK_30, qR_26_10, qK_31, qR_26_11, qK_32, qR_26_12, qK_33, qR_26_13, qK_34, qR_26_14, qK_35, qR_26_15, qK_36, qR_26_16, qK_37]
  rw [eb]
  simp (disch := omega) only [nI_leI, nI_ltI, nI_eq, nI_cl, qin_eq, nI_add, nI_mul, qb_z, qb_t, qb_f, nI_ne0', Nat.reduceAdd, Bool.false_eq_true, if_false, if_true, true_and, and_true, Nat.reduceEqDiff, not_true_eq_false, not_false_eq_true, false_implies, true_implies, ite_true, ite_false]
  refine ⟨fun g => ?_, fun g => ?_⟩
  · have : b = D 0 0 := by omega
    subst this
    exact second σ1 f1 a1 0 (Nat.zero_le _) (fun i hi => absurd hi (Nat.not_lt_zero _))
  · have hb1 : b < D 0 0 := by omega
    have nx : ∀ v, v = (if zUp D b = true then nI 0 else iI (-1)) → qV 3 2 (.inr (.inr fun σ' => (∀ b, b < D 0 0 → σ'.1 38 b = if zUp D b = true then nI 0 else iI (-1)) ∧ (∀ q, q < D 0 1 → σ'.1 39 q = if zOpen D q = true then iI (-1) else nI 0) ∧ zF zPah σ σ')) 10 [some (qr 25), some (qi (nI (zups D))), some (qi (nI (b + 1)))] [] (qwi σ1 38 b v) := fun v hv => by
      refine ih hb1 _ (f1.tr (zF.wi (Or.inl rfl))) (fun i hi => ?_)
      rw [qwi_1]
      by_cases e : i = b
      · subst e; rw [if_pos ⟨rfl, rfl⟩]; exact hv
      · rw [if_neg (by omega)]; exact a1 i (by omega)
    rw [qshl1 (by omega)]
    simp only [nI_and0 (show zups D < 2147483648 by omega), zups_bit hb1]
    refine ⟨fun h9 => ?_, fun h9 => ?_⟩
    · exact ⟨qin_n (by omega) (by decide), nx _ (by rw [h9, if_neg (by decide)])⟩
    · have h9 : zUp D b = true := by simpa using h9
      exact ⟨qin_n (by omega) (by decide), nx _ (by rw [h9, if_pos rfl])⟩
set_option maxRecDepth 20000 in
theorem x_note {σ : qSg} {D : zC} (h : zX σ 26 D) (hw : zW D) {k : Nat} : qCV 2 4 [qr 25, qi (nI k)] σ (fun σ' => (∀ b, b < D 0 0 → σ'.1 38 b = if σ.1 38 b = iI (-1) ∧ zUp D b = true then nI k else σ.1 38 b) ∧ (∀ q, q < D 0 1 → σ'.1 39 q = if σ.1 39 q = iI (-1) ∧ zOpen D q = false then nI k else σ.1 39 q) ∧ zF zPah σ σ') := by
  have hw' := hw
  obtain ⟨wb, wq, ww1, ww2, wh1, wh2, wo, wm, wB, wQ⟩ := hw'
  have hu := zups_lt hw
  refine qCV.of [some (qr 25), some (qi (nI k)), none, none] ok_4 (Nat.le_of_ble_eq_true rfl) rfl ?_
  refine qV.go 30 [10] ok_4 ?_
  simp only [qW_nop, qW_iconst, qW_iconstm, qW_iloadn, qW_aloadn, qW_istoren, qW_iinc, qW_iand, qW_ishl, qW_ifeq, qW_icne, qW_icge, qW_goto, qW_getf, qW_iald, qW_iast, qW_vret, qW_cv1_0, Nat.reduceAdd, Nat.reduceMul, Nat.reduceBEq, Nat.reduceEqDiff, Nat.reduceLT, Nat.reduceLeDiff, Nat.zero_le, nI_add, nI_mul, nI_cl, qin_eq, qofI, qlg_0, qlg_s, qls_i0, qls_r0, qls_l0, qls_1, qls_2, qkl_i, qkl_r, qkl_l, qkl_n, qIsI_i, qIsL_l, qIsR_r, qint_i, qil_i, qil_r, qil_l, qf4_0, qf4_1, qf4_2, qf4_3, qf2_0, qf2_1, qcs_n, qcs_i, qcs_r, qcs_l, qst_n, qst_c, qJ_0, qJ_st, qJ_go, qfl_I, qfl_Z, qfl_L, qfl_R, qrI_i, qrL_l, qrV_v, qRcv_0, qRcv_s, eq_self, true_and, and_true, true_or, or_true, false_and, and_false, false_or, or_false, ite_true, if_true, if_false, Bool.true_or, Bool.false_or, Bool.or_false, beq_self_eq_true, Bool.false_eq_true, bX0_note_0, bX0_note_10, bX0_note_46, bX0_note_52, bX0_note_54, bX0_note_94, bX0_note_100, kX0_note_0, kX0_note_10, kX0_note_46, kX0_note_52, kX0_note_54, kX0_note_94, kX0_note_100, qK_25, qR_25_0, qK_26, qR_25_1, qK_38, qR_25_2, qK_39, qK_26, qR_26_6, qK_27, qR_26_7, qK_28, qR_26_8, qK_29, qR_26_9, qK_30, qR_26_10, qK_31, qR_26_11, qK_32, qR_26_12, qK_33, qR_26_13, qK_34, qR_26_14, qK_35, qR_26_15, qK_36, qR_26_16, qK_37]
  refine qBI.fn (x_upSet zCb_l h.1 hw) (by decide) ?_
  have second : ∀ q, q ≤ D 0 1 → ∀ σ2, zF zPah σ σ2 → (∀ b, b < D 0 0 → σ2.1 38 b = if σ.1 38 b = iI (-1) ∧ zUp D b = true then nI k else σ.1 38 b) → (∀ i, i < q → σ2.1 39 i = if σ.1 39 i = iI (-1) ∧ zOpen D i = false then nI k else σ.1 39 i) → (∀ i, q ≤ i → σ2.1 39 i = σ.1 39 i) → qV 4 2 (.inr (.inr fun σ' => (∀ b, b < D 0 0 → σ'.1 38 b = if σ.1 38 b = iI (-1) ∧ zUp D b = true then nI k else σ.1 38 b) ∧ (∀ q, q < D 0 1 → σ'.1 39 q = if σ.1 39 q = iI (-1) ∧ zOpen D q = false then nI k else σ.1 39 q) ∧ zF zPah σ σ')) 54 [some (qr 25), some (qi (nI k)), some (qi (nI (zups D))), some (qi (nI q))] [] σ2 := by
    refine qdown (n := D 0 1) (P := fun q => ∀ σ2, zF zPah σ σ2 → (∀ b, b < D 0 0 → σ2.1 38 b = if σ.1 38 b = iI (-1) ∧ zUp D b = true then nI k else σ.1 38 b) → (∀ i, i < q → σ2.1 39 i = if σ.1 39 i = iI (-1) ∧ zOpen D i = false then nI k else σ.1 39 i) → (∀ i, q ≤ i → σ2.1 39 i = σ.1 39 i) → qV 4 2 (.inr (.inr fun σ' => (∀ b, b < D 0 0 → σ'.1 38 b = if σ.1 38 b = iI (-1) ∧ zUp D b = true then nI k else σ.1 38 b) ∧ (∀ q, q < D 0 1 → σ'.1 39 q = if σ.1 39 q = iI (-1) ∧ zOpen D q = false then nI k else σ.1 39 q) ∧ zF zPah σ σ')) 54 [some (qr 25), some (qi (nI k)), some (qi (nI (zups D))), some (qi (nI q))] [] σ2) (fun q hq ih => ?_)
    intro σ2 f2 a2 a3 a4
    have h2 : zX σ2 26 D := h.fr fun a j h1 h2 => f2.1 a j (by unfold zPah; omega)
    have eq : σ2.1 26 5 = nI (D 0 1) := h2.1.q
    refine qV.go 30 [54, 94] ok_4 ?_
    simp only [qW_nop, qW_iconst, qW_iconstm, qW_iloadn, qW_aloadn, qW_istoren, qW_iinc, qW_iand, qW_ishl, qW_ifeq, qW_icne, qW_icge, qW_goto, qW_getf, qW_iald, qW_iast, qW_vret, qW_cv1_0, Nat.reduceAdd, Nat.reduceMul, Nat.reduceBEq, Nat.reduceEqDiff, Nat.reduceLT, Nat.reduceLeDiff, Nat.zero_le, nI_add, nI_mul, nI_cl, qin_eq, qofI, qlg_0, qlg_s, qls_i0, qls_r0, qls_l0, qls_1, qls_2, qkl_i, qkl_r, qkl_l, qkl_n, qIsI_i, qIsL_l, qIsR_r, qint_i, qil_i, qil_r, qil_l, qf4_0, qf4_1, qf4_2, qf4_3, qf2_0, qf2_1, qcs_n, qcs_i, qcs_r, qcs_l, qst_n, qst_c, qJ_0, qJ_st, qJ_go, qfl_I, qfl_Z, qfl_L, qfl_R, qrI_i, qrL_l, qrV_v, qRcv_0, qRcv_s, eq_self, true_and, and_true, true_or, or_true, false_and, and_false, false_or, or_false, ite_true, if_true, if_false, Bool.true_or, Bool.false_or, Bool.or_false, beq_self_eq_true, Bool.false_eq_true, bX0_note_0, bX0_note_10, bX0_note_46, bX0_note_52, bX0_note_54, bX0_note_94, bX0_note_100, kX0_note_0, kX0_note_10, kX0_note_46, kX0_note_52, kX0_note_54, kX0_note_94, kX0_note_100, qK_25, qR_25_0, qK_26, qR_25_1, qK_38, qR_25_2, qK_39, qK_26, qR_26_6, qK_27, qR_26_7, qK_28, qR_26_8, qK_29, qR_26_9, qK_30, qR_26_10, qK_31, qR_26_11, qK_32, qR_26_12, qK_33, qR_26_13, qK_34, qR_26_14, qK_35, qR_26_15, qK_36, qR_26_16, qK_37]
    rw [eq]
    simp (disch := omega) only [nI_leI, nI_ltI, nI_eq, nI_cl, qin_eq, nI_add, nI_mul, qb_z, qb_t, qb_f, nI_ne0', Nat.reduceAdd, Bool.false_eq_true, if_false, if_true, true_and, and_true, Nat.reduceEqDiff, not_true_eq_false, not_false_eq_true, false_implies, true_implies, ite_true, ite_false]
    refine ⟨fun g => ?_, fun g => ?_⟩
    · have : q = D 0 1 := by omega
      subst this
      exact ⟨a2, a3, f2⟩
    · have hq1 : q < D 0 1 := by omega
      have g9 := wQ q hq1
      have ee : σ2.1 37 q = nI (D 9 q) := h2.1.en hq1
      rw [a4 q (Nat.le_refl _), ee]
      have nx : ∀ σ3, zF zPah σ σ3 → (∀ a j, ¬ (a = 39 ∧ j = q) → σ3.1 a j = σ2.1 a j) → σ3.1 39 q = (if σ.1 39 q = iI (-1) ∧ zOpen D q = false then nI k else σ.1 39 q) → qV 4 2 (.inr (.inr fun σ' => (∀ b, b < D 0 0 → σ'.1 38 b = if σ.1 38 b = iI (-1) ∧ zUp D b = true then nI k else σ.1 38 b) ∧ (∀ q, q < D 0 1 → σ'.1 39 q = if σ.1 39 q = iI (-1) ∧ zOpen D q = false then nI k else σ.1 39 q) ∧ zF zPah σ σ')) 94 [some (qr 25), some (qi (nI k)), some (qi (nI (zups D))), some (qi (nI q))] [] σ3 := fun σ3 f3 e3 hv => by
        have key := ih hq1 σ3 f3 (fun b hb => by rw [e3 _ _ (by omega)]; exact a2 b hb) (fun i hi => by
          by_cases e : i = q
          · subst e; exact hv
          · rw [e3 _ _ (by omega)]; exact a3 i (by omega)) (fun i hi => by rw [e3 _ _ (by omega)]; exact a4 i (by omega))
        refine qV.go 30 [54] ok_4 ?_
        simp only [qW_nop, qW_iconst, qW_iconstm, qW_iloadn, qW_aloadn, qW_istoren, qW_iinc, qW_iand, qW_ishl, qW_ifeq, qW_icne, qW_icge, qW_goto, qW_getf, qW_iald, qW_iast, qW_vret, qW_cv1_0, Nat.reduceAdd, Nat.reduceMul, Nat.reduceBEq, Nat.reduceEqDiff, Nat.reduceLT, Nat.reduceLeDiff, Nat.zero_le, nI_add, nI_mul, nI_cl, qin_eq, qofI, qlg_0, qlg_s, qls_i0, qls_r0, qls_l0, qls_1, qls_2, qkl_i, qkl_r, qkl_l, qkl_n, qIsI_i, qIsL_l, qIsR_r, qint_i, qil_i, qil_r, qil_l, qf4_0, qf4_1, qf4_2, qf4_3, qf2_0, qf2_1, qcs_n, qcs_i, qcs_r, qcs_l, qst_n, qst_c, qJ_0, qJ_st, qJ_go, qfl_I, qfl_Z, qfl_L, qfl_R, qrI_i, qrL_l, qrV_v, qRcv_0, qRcv_s, eq_self, true_and, and_true, true_or, or_true, false_and, and_false, false_or, or_false, ite_true, if_true, if_false, Bool.true_or, Bool.false_or, Bool.or_false, beq_self_eq_true, Bool.false_eq_true, bX0_note_0, bX0_note_10, bX0_note_46, bX0_note_52, bX0_note_54, bX0_note_94, bX0_note_100, kX0_note_0, kX0_note_10, kX0_note_46, kX0_note_52, kX0_note_54, kX0_note_94, kX0_note_100, qK_25, qR_25_0, qK_26, qR_25_1, qK_38, qR_25_2, qK_39, qK_26, qR_26_6, qK_27, qR_26_7, qK_28, qR_26_8, qK_29, qR_26_9, qK_30, qR_26_10, qK_31, qR_26_11, qK_32, qR_26_12, qK_33, qR_26_13, qK_34, qR_26_14, qK_35, qR_26_15, qK_36, qR_26_16, qK_37]
        exact key
      have zo : (zOpen D q = false) = ¬ (D 9 q = 0) := by unfold zOpen; simp
      simp (disch := omega) only [nI_leI, nI_ltI, nI_eq, nI_cl, qin_eq, nI_add, nI_mul, qb_z, qb_t, qb_f, nI_ne0', Nat.reduceAdd, Bool.false_eq_true, if_false, if_true, true_and, and_true, Nat.reduceEqDiff, not_true_eq_false, not_false_eq_true, false_implies, true_implies, ite_true, ite_false]
      refine ⟨fun h8 => nx σ2 f2 (fun _ _ _ => rfl) ?_, fun h8 => ⟨fun h9 => nx σ2 f2 (fun _ _ _ => rfl) ?_, fun h9 => nx _ (f2.tr (zF.wi (Or.inr rfl))) (fun a j hn => by rw [qwi_1, if_neg hn]) ?_⟩⟩
      · rw [if_neg (fun hh => h8 hh.1)]; exact a4 q (Nat.le_refl _)
      · rw [if_neg (fun hh => by have hh2 := hh.2; rw [zo] at hh2; exact hh2 h9)]; exact a4 q (Nat.le_refl _)
      · rw [qwi_1, if_pos ⟨rfl, rfl⟩, if_pos ⟨h8, by rw [zo]; exact h9⟩]
  refine qdown (n := D 0 0) (P := fun b => ∀ σ1, zF zPah σ σ1 → (∀ i, i < b → σ1.1 38 i = if σ.1 38 i = iI (-1) ∧ zUp D i = true then nI k else σ.1 38 i) → (∀ i, b ≤ i → σ1.1 38 i = σ.1 38 i) → (∀ i, σ1.1 39 i = σ.1 39 i) → qV 4 2 (.inr (.inr fun σ' => (∀ b, b < D 0 0 → σ'.1 38 b = if σ.1 38 b = iI (-1) ∧ zUp D b = true then nI k else σ.1 38 b) ∧ (∀ q, q < D 0 1 → σ'.1 39 q = if σ.1 39 q = iI (-1) ∧ zOpen D q = false then nI k else σ.1 39 q) ∧ zF zPah σ σ')) 10 [some (qr 25), some (qi (nI k)), some (qi (nI (zups D))), some (qi (nI b))] [] σ1) (fun b hb ih => ?_) 0 (Nat.zero_le _) σ zF.rf (fun i hi => absurd hi (Nat.not_lt_zero _)) (fun _ _ => rfl) (fun _ => rfl)
  intro σ1 f1 a1 a4 a5
  have h1 : zX σ1 26 D := h.fr fun a j h1 h2 => f1.1 a j (by unfold zPah; omega)
  have eb : σ1.1 26 4 = nI (D 0 0) := h1.1.b
  refine qV.go 30 [10, 46, 54] ok_4 ?_
  simp only [qW_nop, qW_iconst, qW_iconstm, qW_iloadn, qW_aloadn, qW_istoren, qW_iinc, qW_iand, qW_ishl, qW_ifeq, qW_icne, qW_icge, qW_goto, qW_getf, qW_iald, qW_iast, qW_vret, qW_cv1_0, Nat.reduceAdd, Nat.reduceMul, Nat.reduceBEq, Nat.reduceEqDiff, Nat.reduceLT, Nat.reduceLeDiff, Nat.zero_le, nI_add, nI_mul, nI_cl, qin_eq, qofI, qlg_0, qlg_s, qls_i0, qls_r0, qls_l0, qls_1, qls_2, qkl_i, qkl_r, qkl_l, qkl_n, qIsI_i, qIsL_l, qIsR_r, qint_i, qil_i, qil_r, qil_l, qf4_0, qf4_1, qf4_2, qf4_3, qf2_0, qf2_1, qcs_n, qcs_i, qcs_r, qcs_l, qst_n, qst_c, qJ_0, qJ_st, qJ_go, qfl_I, qfl_Z, qfl_L, qfl_R, qrI_i, qrL_l, qrV_v, qRcv_0, qRcv_s, eq_self, true_and, and_true, true_or, or_true, false_and, and_false, false_or, or_false, ite_true, if_true, if_false, Bool.true_or, Bool.false_or, Bool.or_false, beq_self_eq_true, Bool.false_eq_true, bX0_note_0, bX0_note_10, bX0_note_46, bX0_note_52, bX0_note_54, bX0_note_94, bX0_note_100, kX0_note_0, kX0_note_10, kX0_note_46, kX0_note_52, kX0_note_54, kX0_note_94, kX0_note_100, qK_25, qR_25_0, qK_26, qR_25_1, qK_38, qR_25_2, qK_39, qK_26, qR_26_6, qK_27, qR_26_7, qK_28, qR_26_8, qK_29, qR_26_9, qK_30, qR_26_10, qK_31, qR_26_11, qK_32, qR_26_12, qK_33, qR_26_13, qK_34, qR_26_14, qK_35, qR_26_15, qK_36, qR_26_16, qK_37]
  rw [eb]
  simp (disch := omega) only [nI_leI, nI_ltI, nI_eq, nI_cl, qin_eq, nI_add, nI_mul, qb_z, qb_t, qb_f, nI_ne0', Nat.reduceAdd, Bool.false_eq_true, if_false, if_true, true_and, and_true, Nat.reduceEqDiff, not_true_eq_false, not_false_eq_true, false_implies, true_implies, ite_true, ite_false]
  refine ⟨fun g => ?_, fun g => ?_⟩
  · have : b = D 0 0 := by omega
    subst this
    exact second 0 (Nat.zero_le _) σ1 f1 a1 (fun i hi => absurd hi (Nat.not_lt_zero _)) (fun i _ => a5 i)
  · have hb1 : b < D 0 0 := by omega
    have nx : ∀ σ3, zF zPah σ σ3 → (∀ a j, ¬ (a = 38 ∧ j = b) → σ3.1 a j = σ1.1 a j) → σ3.1 38 b = (if σ.1 38 b = iI (-1) ∧ zUp D b = true then nI k else σ.1 38 b) → qV 4 2 (.inr (.inr fun σ' => (∀ b, b < D 0 0 → σ'.1 38 b = if σ.1 38 b = iI (-1) ∧ zUp D b = true then nI k else σ.1 38 b) ∧ (∀ q, q < D 0 1 → σ'.1 39 q = if σ.1 39 q = iI (-1) ∧ zOpen D q = false then nI k else σ.1 39 q) ∧ zF zPah σ σ')) 46 [some (qr 25), some (qi (nI k)), some (qi (nI (zups D))), some (qi (nI b))] [] σ3 := fun σ3 f3 e3 hv => by
      have key := ih hb1 σ3 f3 (fun i hi => by
        by_cases e : i = b
        · subst e; exact hv
        · rw [e3 _ _ (by omega)]; exact a1 i (by omega)) (fun i hi => by rw [e3 _ _ (by omega)]; exact a4 i (by omega)) (fun i => by rw [e3 _ _ (by omega)]; exact a5 i)
      refine qV.go 30 [10] ok_4 ?_
      simp only [qW_nop, qW_iconst, qW_iconstm, qW_iloadn, qW_aloadn, qW_istoren, qW_iinc, qW_iand, qW_ishl, qW_ifeq, qW_icne, qW_icge, qW_goto, qW_getf, qW_iald, qW_iast, qW_vret, qW_cv1_0, Nat.reduceAdd, Nat.reduceMul, Nat.reduceBEq, Nat.reduceEqDiff, Nat.reduceLT, Nat.reduceLeDiff, Nat.zero_le, nI_add, nI_mul, nI_cl, qin_eq, qofI, qlg_0, qlg_s, qls_i0, qls_r0, qls_l0, qls_1, qls_2, qkl_i, qkl_r, qkl_l, qkl_n, qIsI_i, qIsL_l, qIsR_r, qint_i, qil_i, qil_r, qil_l, qf4_0, qf4_1, qf4_2, qf4_3, qf2_0, qf2_1, qcs_n, qcs_i, qcs_r, qcs_l, qst_n, qst_c, qJ_0, qJ_st, qJ_go, qfl_I, qfl_Z, qfl_L, qfl_R, qrI_i, qrL_l, qrV_v, qRcv_0, qRcv_s, eq_self, true_and, and_true, true_or, or_true, false_and, and_false, false_or, or_false, ite_true, if_true, if_false, Bool.true_or, Bool.false_or, Bool.or_false, beq_self_eq_true, Bool.false_eq_true, bX0_note_0, bX0_note_10, bX0_note_46, bX0_note_52, bX0_note_54, bX0_note_94, bX0_note_100, kX0_note_0, kX0_note_10, kX0_note_46, kX0_note_52, kX0_note_54, kX0_note_94, kX0_note_100, qK_25, qR_25_0, qK_26, qR_25_1, qK_38, qR_25_2, qK_39, qK_26, qR_26_6, qK_27, qR_26_7, qK_28, qR_26_8, qK_29, qR_26_9, qK_30, qR_26_10, qK_31, qR_26_11, qK_32, qR_26_12, qK_33, qR_26_13, qK_34, qR_26_14, qK_35, qR_26_15, qK_36, qR_26_16, qK_37]
      exact key
    rw [a4 b (Nat.le_refl _), qshl1 (by omega)]
    simp only [nI_and0 (show zups D < 2147483648 by omega), zups_bit hb1]
    simp (disch := omega) only [nI_leI, nI_ltI, nI_eq, nI_cl, qin_eq, nI_add, nI_mul, qb_z, qb_t, qb_f, nI_ne0', Nat.reduceAdd, Bool.false_eq_true, if_false, if_true, true_and, and_true, Nat.reduceEqDiff, not_true_eq_false, not_false_eq_true, false_implies, true_implies, ite_true, ite_false]
    refine ⟨fun h8 => nx σ1 f1 (fun _ _ _ => rfl) ?_, fun h8 => ⟨fun h9 => nx σ1 f1 (fun _ _ _ => rfl) ?_, fun h9 => nx _ (f1.tr (zF.wi (Or.inl rfl))) (fun a j hn => by rw [qwi_1, if_neg hn]) ?_⟩⟩
    · rw [if_neg (fun hh => h8 hh.1)]; exact a4 b (Nat.le_refl _)
    · rw [if_neg (fun hh => by rw [h9] at hh; exact absurd hh.2 (by decide))]; exact a4 b (Nat.le_refl _)
    · have h9 : zUp D b = true := by simpa using h9
      rw [qwi_1, if_pos ⟨rfl, rfl⟩, if_pos ⟨h8, h9⟩]
set_option maxRecDepth 20000 in
theorem x_firstOf (σ : qSg) {s : Nat} (hs : s < 256) (h0 : s ≠ 0) : qFI 1 2 [qi (nI s)] σ (nI (zlow s)) := by
  obtain ⟨b, hb, hbit⟩ := zbit_ex hs h0
  obtain ⟨z1, z2, z3⟩ := zlow_spec (by omega) hbit
  refine qCI.of [some (qi (nI s)), none] ok_2 (Nat.le_of_ble_eq_true rfl) rfl ?_
  refine qV.go 30 [2] ok_2 ?_
  simp only [qW_nop, qW_iconst, qW_iconstm, qW_bipush, qW_iloadn, qW_istoren, qW_iinc, qW_iand, qW_ishl, qW_ifeq, qW_icge, qW_goto, qW_iret0, Nat.reduceAdd, Nat.reduceMul, Nat.reduceBEq, Nat.reduceEqDiff, Nat.reduceLT, Nat.reduceLeDiff, Nat.zero_le, nI_add, nI_mul, nI_cl, qin_eq, qofI, qlg_0, qlg_s, qls_i0, qls_r0, qls_l0, qls_1, qls_2, qkl_i, qkl_r, qkl_l, qkl_n, qIsI_i, qIsL_l, qIsR_r, qint_i, qil_i, qil_r, qil_l, qf4_0, qf4_1, qf4_2, qf4_3, qf2_0, qf2_1, qcs_n, qcs_i, qcs_r, qcs_l, qst_n, qst_c, qJ_0, qJ_st, qJ_go, qfl_I, qfl_Z, qfl_L, qfl_R, qrI_i, qrL_l, qrV_v, qRcv_0, qRcv_s, eq_self, true_and, and_true, true_or, or_true, false_and, and_false, false_or, or_false, ite_true, if_true, if_false, Bool.true_or, Bool.false_or, Bool.or_false, beq_self_eq_true, Bool.false_eq_true, bX0_firstOf_0, bX0_firstOf_2, bX0_firstOf_18, bX0_firstOf_24, kX0_firstOf_0, kX0_firstOf_2, kX0_firstOf_18, kX0_firstOf_24, qK_25, qR_25_0, qK_26, qR_25_1, qK_38, qR_25_2, qK_39]
  refine qdown (n := zlow s) (P := fun j => qV 2 1 (.inl fun v σ' => v = nI (zlow s) ∧ σ' = σ) 2 [some (qi (nI s)), some (qi (nI j))] [] σ) (fun j hj ih => ?_) 0 (Nat.zero_le _)
  refine qV.go 30 [2] ok_2 ?_
  simp only [qW_nop, qW_iconst, qW_iconstm, qW_bipush, qW_iloadn, qW_istoren, qW_iinc, qW_iand, qW_ishl, qW_ifeq, qW_icge, qW_goto, qW_iret0, Nat.reduceAdd, Nat.reduceMul, Nat.reduceBEq, Nat.reduceEqDiff, Nat.reduceLT, Nat.reduceLeDiff, Nat.zero_le, nI_add, nI_mul, nI_cl, qin_eq, qofI, qlg_0, qlg_s, qls_i0, qls_r0, qls_l0, qls_1, qls_2, qkl_i, qkl_r, qkl_l, qkl_n, qIsI_i, qIsL_l, qIsR_r, qint_i, qil_i, qil_r, qil_l, qf4_0, qf4_1, qf4_2, qf4_3, qf2_0, qf2_1, qcs_n, qcs_i, qcs_r, qcs_l, qst_n, qst_c, qJ_0, qJ_st, qJ_go, qfl_I, qfl_Z, qfl_L, qfl_R, qrI_i, qrL_l, qrV_v, qRcv_0, qRcv_s, eq_self, true_and, and_true, true_or, or_true, false_and, and_false, false_or, or_false, ite_true, if_true, if_false, Bool.true_or, Bool.false_or, Bool.or_false, beq_self_eq_true, Bool.false_eq_true, bX0_firstOf_0, bX0_firstOf_2, bX0_firstOf_18, bX0_firstOf_24, kX0_firstOf_0, kX0_firstOf_2, kX0_firstOf_18, kX0_firstOf_24, qK_25, qR_25_0, qK_26, qR_25_1, qK_38, qR_25_2, qK_39]
  simp (disch := omega) only [nI_leI, nI_ltI, nI_eq, nI_cl, qin_eq, nI_add, nI_mul, qb_z, qb_t, qb_f, nI_ne0', Nat.reduceAdd, Bool.false_eq_true, if_false, if_true, true_and, and_true, Nat.reduceEqDiff, not_true_eq_false, not_false_eq_true, false_implies, true_implies, ite_true, ite_false]
  refine ⟨fun g => by omega, fun g => ?_⟩
  rw [qshl1 (by omega)]
  simp only [nI_and0 (show s < 2147483648 by omega)]
  refine ⟨fun h9 => ih ?_, fun h9 => ?_⟩
  · rcases Nat.lt_or_ge j (zlow s) with e | e
    · exact e
    · have : j = zlow s := by omega
      rw [this, z2] at h9; cases h9
  · rcases Nat.lt_or_ge j (zlow s) with e | e
    · exact absurd (z3 j e) h9
    · have : j = zlow s := by omega
      rw [this]
