/-! the class: clues -/
/-- the clues that are held: n of them, boy and minutes -/
def zCl (σ : qSg) (n : Nat) (s a : Nat → Nat) : Prop := σ.1 41 4 = nI n ∧ ∀ i, i < n → σ.1 42 i = nI (s i) ∧ σ.1 43 i = nI (a i)
set_option maxRecDepth 20000 in
theorem x_asSeen {σ : qSg} {m n : Nat} {s a U : Nat → Nat} (hm : m ≤ 8) (hn : n ≤ 20) (hc : zCl σ n s a) (hs : ∀ i, i < n → s i < m) (ha : ∀ i, i < n → a i ≤ 200) (hU : ∀ b, b < m → σ.1 38 b = nI (U b)) (hU2 : ∀ b, b < m → U b ≤ 1000) : qFI 1 44 [qr 41, qi (nI m)] σ (qb (zall (fun i => decide (U (s i) = a i)) n)) := by
  refine qCI.of [some (qr 41), some (qi (nI m)), none, none] ok_44 (Nat.le_of_ble_eq_true rfl) rfl ?_
  refine qV.go 30 [2] ok_44 ?_
  simp only [qW_nop, qW_iconst, qW_bipush, qW_iloadn, qW_aloadn, qW_istoren, qW_iinc, qW_iceq, qW_iflt, qW_icge, qW_goto, qW_getf, qW_iald, qW_iret1, Nat.reduceAdd, Nat.reduceMul, Nat.reduceBEq, Nat.reduceEqDiff, Nat.reduceLT, Nat.reduceLeDiff, Nat.zero_le, nI_add, nI_mul, nI_cl, qin_eq, qofI, qlg_0, qlg_s, qls_i0, qls_r0, qls_l0, qls_1, qls_2, qkl_i, qkl_r, qkl_l, qkl_n, qIsI_i, qIsL_l, qIsR_r, qint_i, qil_i, qil_r, qil_l, qf4_0, qf4_1, qf4_2, qf4_3, qf2_0, qf2_1, qcs_n, qcs_i, qcs_r, qcs_l, qst_n, qst_c, qJ_0, qJ_st, qJ_go, qfl_I, qfl_Z, qfl_L, qfl_R, qrI_i, qrL_l, qrV_v, qRcv_0, qRcv_s, eq_self, true_and, and_true, true_or, or_true, false_and, and_false, false_or, or_false, ite_true, if_true, if_false, Bool.true_or, Bool.false_or, Bool.or_false, beq_self_eq_true, Bool.false_eq_true, bX3_asSeen_0, bX3_asSeen_2, bX3_asSeen_50, bX3_asSeen_52, bX3_asSeen_58, kX3_asSeen_0, kX3_asSeen_2, kX3_asSeen_50, kX3_asSeen_52, kX3_asSeen_58, qK_41, qR_41_0, qK_13, qR_41_1, qK_25, qR_41_2, qK_42, qR_41_3, qK_43, qR_41_5, qK_44, qK_25, qR_25_0, qK_26, qR_25_1, qK_38, qR_25_2, qK_39]
  refine qdown (n := n) (P := fun q => ∀ l3 : Option qPV, (∀ i, i < q → decide (U (s i) = a i) = true) → qV 44 1 (.inl fun v σ' => v = qb (zall (fun i => decide (U (s i) = a i)) n) ∧ σ' = σ) 2 [some (qr 41), some (qi (nI m)), some (qi (nI q)), l3] [] σ) (fun q hq ih => ?_) 0 (Nat.zero_le _) none (fun i hi => absurd hi (Nat.not_lt_zero _))
  intro l3 hp
  refine qV.go 30 [2, 50, 52] ok_44 ?_
  simp only [qW_nop, qW_iconst, qW_bipush, qW_iloadn, qW_aloadn, qW_istoren, qW_iinc, qW_iceq, qW_iflt, qW_icge, qW_goto, qW_getf, qW_iald, qW_iret1, Nat.reduceAdd, Nat.reduceMul, Nat.reduceBEq, Nat.reduceEqDiff, Nat.reduceLT, Nat.reduceLeDiff, Nat.zero_le, nI_add, nI_mul, nI_cl, qin_eq, qofI, qlg_0, qlg_s, qls_i0, qls_r0, qls_l0, qls_1, qls_2, qkl_i, qkl_r, qkl_l, qkl_n, qIsI_i, qIsL_l, qIsR_r, qint_i, qil_i, qil_r, qil_l, qf4_0, qf4_1, qf4_2, qf4_3, qf2_0, qf2_1, qcs_n, qcs_i, qcs_r, qcs_l, qst_n, qst_c, qJ_0, qJ_st, qJ_go, qfl_I, qfl_Z, qfl_L, qfl_R, qrI_i, qrL_l, qrV_v, qRcv_0, qRcv_s, eq_self, true_and, and_true, true_or, or_true, false_and, and_false, false_or, or_false, ite_true, if_true, if_false, Bool.true_or, Bool.false_or, Bool.or_false, beq_self_eq_true, Bool.false_eq_true, bX3_asSeen_0, bX3_asSeen_2, bX3_asSeen_50, bX3_asSeen_52, bX3_asSeen_58, kX3_asSeen_0, kX3_asSeen_2, kX3_asSeen_50, kX3_asSeen_52, kX3_asSeen_58, qK_41, qR_41_0, qK_13, qR_41_1, qK_25, qR_41_2, qK_42, qR_41_3, qK_43, qR_41_5, qK_44, qK_25, qR_25_0, qK_26, qR_25_1, qK_38, qR_25_2, qK_39]
  rw [hc.1]
  simp (disch := omega) only [nI_leI, nI_ltI, nI_eq, nI_cl, qin_eq, nI_add, nI_mul, qb_z, qb_t, qb_f, nI_ne0', Nat.reduceAdd, Bool.false_eq_true, if_false, if_true, true_and, and_true, Nat.reduceEqDiff, not_true_eq_false, not_false_eq_true, false_implies, true_implies, ite_true, ite_false]
  refine ⟨fun g => ?_, fun g => ?_⟩
  · have : q = n := by omega
    subst this
    have : zall (fun i => decide (U (s i) = a i)) q = true := (zall_iff _ _).mpr hp
    rw [this]
    rfl
  · have hq1 : q < n := by omega
    obtain ⟨c1, c2⟩ := hc.2 q hq1
    have hs1 := hs q hq1
    have ha1 := ha q hq1
    have hu1 := hU2 (s q) hs1
    rw [c1]
    simp (disch := omega) only [nI_leI, nI_ltI, nI_eq, nI_cl, qin_eq, nI_add, nI_mul, qb_z, qb_t, qb_f, nI_ne0', Nat.reduceAdd, Bool.false_eq_true, if_false, if_true, true_and, and_true, Nat.reduceEqDiff, not_true_eq_false, not_false_eq_true, false_implies, true_implies, ite_true, ite_false]
    simp only [z0i, qlt, qle, nI_t (show s q < 2147483648 by omega), nI_t (show m < 2147483648 by omega), nI_t (show 8 < 2147483648 by decide)]
    refine ⟨fun hh => by omega, fun _ => ⟨fun hh => by omega, fun _ => ⟨fun hh => by omega, fun _ => ?_⟩⟩⟩
    rw [hU _ hs1, c2]
    simp (disch := omega) only [nI_leI, nI_ltI, nI_eq, nI_cl, qin_eq, nI_add, nI_mul, qb_z, qb_t, qb_f, nI_ne0', Nat.reduceAdd, Bool.false_eq_true, if_false, if_true, true_and, and_true, Nat.reduceEqDiff, not_true_eq_false, not_false_eq_true, false_implies, true_implies, ite_true, ite_false]
    refine ⟨fun h8 => ?_, fun h8 => ?_⟩
    · have := ih hq1 (some (qi (nI (s q)))) (fun i hi => by
        by_cases e : i = q
        · subst e; exact decide_eq_true h8
        · exact hp i (by omega))
      refine qV.go 30 [2] ok_44 ?_
      simp only [qW_nop, qW_iconst, qW_bipush, qW_iloadn, qW_aloadn, qW_istoren, qW_iinc, qW_iceq, qW_iflt, qW_icge, qW_goto, qW_getf, qW_iald, qW_iret1, Nat.reduceAdd, Nat.reduceMul, Nat.reduceBEq, Nat.reduceEqDiff, Nat.reduceLT, Nat.reduceLeDiff, Nat.zero_le, nI_add, nI_mul, nI_cl, qin_eq, qofI, qlg_0, qlg_s, qls_i0, qls_r0, qls_l0, qls_1, qls_2, qkl_i, qkl_r, qkl_l, qkl_n, qIsI_i, qIsL_l, qIsR_r, qint_i, qil_i, qil_r, qil_l, qf4_0, qf4_1, qf4_2, qf4_3, qf2_0, qf2_1, qcs_n, qcs_i, qcs_r, qcs_l, qst_n, qst_c, qJ_0, qJ_st, qJ_go, qfl_I, qfl_Z, qfl_L, qfl_R, qrI_i, qrL_l, qrV_v, qRcv_0, qRcv_s, eq_self, true_and, and_true, true_or, or_true, false_and, and_false, false_or, or_false, ite_true, if_true, if_false, Bool.true_or, Bool.false_or, Bool.or_false, beq_self_eq_true, Bool.false_eq_true, bX3_asSeen_0, bX3_asSeen_2, bX3_asSeen_50, bX3_asSeen_52, bX3_asSeen_58, kX3_asSeen_0, kX3_asSeen_2, kX3_asSeen_50, kX3_asSeen_52, kX3_asSeen_58, qK_41, qR_41_0, qK_13, qR_41_1, qK_25, qR_41_2, qK_42, qR_41_3, qK_43, qR_41_5, qK_44, qK_25, qR_25_0, qK_26, qR_25_1, qK_38, qR_25_2, qK_39]
      exact this
    · refine qV.go 30 [9999] ok_44 ?_
      simp only [qW_nop, qW_iconst, qW_bipush, qW_iloadn, qW_aloadn, qW_istoren, qW_iinc, qW_iceq, qW_iflt, qW_icge, qW_goto, qW_getf, qW_iald, qW_iret1, Nat.reduceAdd, Nat.reduceMul, Nat.reduceBEq, Nat.reduceEqDiff, Nat.reduceLT, Nat.reduceLeDiff, Nat.zero_le, nI_add, nI_mul, nI_cl, qin_eq, qofI, qlg_0, qlg_s, qls_i0, qls_r0, qls_l0, qls_1, qls_2, qkl_i, qkl_r, qkl_l, qkl_n, qIsI_i, qIsL_l, qIsR_r, qint_i, qil_i, qil_r, qil_l, qf4_0, qf4_1, qf4_2, qf4_3, qf2_0, qf2_1, qcs_n, qcs_i, qcs_r, qcs_l, qst_n, qst_c, qJ_0, qJ_st, qJ_go, qfl_I, qfl_Z, qfl_L, qfl_R, qrI_i, qrL_l, qrV_v, qRcv_0, qRcv_s, eq_self, true_and, and_true, true_or, or_true, false_and, and_false, false_or, or_false, ite_true, if_true, if_false, Bool.true_or, Bool.false_or, Bool.or_false, beq_self_eq_true, Bool.false_eq_true, bX3_asSeen_0, bX3_asSeen_2, bX3_asSeen_50, bX3_asSeen_52, bX3_asSeen_58, kX3_asSeen_0, kX3_asSeen_2, kX3_asSeen_50, kX3_asSeen_52, kX3_asSeen_58, qK_41, qR_41_0, qK_13, qR_41_1, qK_25, qR_41_2, qK_42, qR_41_3, qK_43, qR_41_5, qK_44, qK_25, qR_25_0, qK_26, qR_25_1, qK_38, qR_25_2, qK_39]
      have : zall (fun i => decide (U (s i) = a i)) n = false := by
        cases hz : zall (fun i => decide (U (s i) = a i)) n with
        | false => rfl
        | true =>
          have := (zall_iff _ _).mp hz q hq1
          exact absurd (of_decide_eq_true this) h8
      rw [this]
      rfl
/-- the prides that fit, as a set -/
def zps (F : Nat → Bool) (p : Nat) : Bool := decide (1 ≤ p) && F p
set_option maxRecDepth 20000 in
theorem x_least (σ : qSg) {F : Nat → Bool} (h : ∃ p, 1 ≤ p ∧ p ≤ 30 ∧ F p = true) : qFI 1 48 [qi (nI (bm 31 (zps F)))] σ (nI (zlst F 30 1)) := by
  obtain ⟨p, p1, p2, p3⟩ := h
  obtain ⟨z1, z2, z3, z4⟩ := zlst_spec F 30 1 p p1 (by omega) p3
  have hl : bm 31 (zps F) < 2147483648 := bm_lt _ _
  refine qCI.of [some (qi (nI (bm 31 (zps F)))), none] ok_48 (Nat.le_of_ble_eq_true rfl) rfl ?_
  refine qV.go 30 [2] ok_48 ?_
  simp only [qW_nop, qW_iconst, qW_iconstm, qW_bipush, qW_iloadn, qW_istoren, qW_iinc, qW_iand, qW_ishl, qW_ifeq, qW_icgt, qW_goto, qW_iret0, Nat.reduceAdd, Nat.reduceMul, Nat.reduceBEq, Nat.reduceEqDiff, Nat.reduceLT, Nat.reduceLeDiff, Nat.zero_le, nI_add, nI_mul, nI_cl, qin_eq, qofI, qlg_0, qlg_s, qls_i0, qls_r0, qls_l0, qls_1, qls_2, qkl_i, qkl_r, qkl_l, qkl_n, qIsI_i, qIsL_l, qIsR_r, qint_i, qil_i, qil_r, qil_l, qf4_0, qf4_1, qf4_2, qf4_3, qf2_0, qf2_1, qcs_n, qcs_i, qcs_r, qcs_l, qst_n, qst_c, qJ_0, qJ_st, qJ_go, qfl_I, qfl_Z, qfl_L, qfl_R, qrI_i, qrL_l, qrV_v, qRcv_0, qRcv_s, eq_self, true_and, and_true, true_or, or_true, false_and, and_false, false_or, or_false, ite_true, if_true, if_false, Bool.true_or, Bool.false_or, Bool.or_false, beq_self_eq_true, Bool.false_eq_true, bX3_least_0, bX3_least_2, bX3_least_18, bX3_least_24, kX3_least_0, kX3_least_2, kX3_least_18, kX3_least_24, qK_41, qR_41_0, qK_13, qR_41_1, qK_25, qR_41_2, qK_42, qR_41_3, qK_43, qR_41_5, qK_44]
  have key := qdown (n := zlst F 30 1) (P := fun q => 1 ≤ q → qV 48 1 (.inl fun v σ' => v = nI (zlst F 30 1) ∧ σ' = σ) 2 [some (qi (nI (bm 31 (zps F)))), some (qi (nI q))] [] σ) (fun q hq ih => ?_) 1 z1 (Nat.le_refl _)
  · exact key
  · intro hq1
    have eb : (bm 31 (zps F)).testBit q = F q := by
      rw [bm_bit, decide_eq_true (by omega)]
      unfold zps
      rw [decide_eq_true hq1]
      rfl
    refine qV.go 30 [2] ok_48 ?_
    simp only [qW_nop, qW_iconst, qW_iconstm, qW_bipush, qW_iloadn, qW_istoren, qW_iinc, qW_iand, qW_ishl, qW_ifeq, qW_icgt, qW_goto, qW_iret0, Nat.reduceAdd, Nat.reduceMul, Nat.reduceBEq, Nat.reduceEqDiff, Nat.reduceLT, Nat.reduceLeDiff, Nat.zero_le, nI_add, nI_mul, nI_cl, qin_eq, qofI, qlg_0, qlg_s, qls_i0, qls_r0, qls_l0, qls_1, qls_2, qkl_i, qkl_r, qkl_l, qkl_n, qIsI_i, qIsL_l, qIsR_r, qint_i, qil_i, qil_r, qil_l, qf4_0, qf4_1, qf4_2, qf4_3, qf2_0, qf2_1, qcs_n, qcs_i, qcs_r, qcs_l, qst_n, qst_c, qJ_0, qJ_st, qJ_go, qfl_I, qfl_Z, qfl_L, qfl_R, qrI_i, qrL_l, qrV_v, qRcv_0, qRcv_s, eq_self, true_and, and_true, true_or, or_true, false_and, and_false, false_or, or_false, ite_true, if_true, if_false, Bool.true_or, Bool.false_or, Bool.or_false, beq_self_eq_true, Bool.false_eq_true, bX3_least_0, bX3_least_2, bX3_least_18, bX3_least_24, kX3_least_0, kX3_least_2, kX3_least_18, kX3_least_24, qK_41, qR_41_0, qK_13, qR_41_1, qK_25, qR_41_2, qK_42, qR_41_3, qK_43, qR_41_5, qK_44]
    simp (disch := omega) only [nI_leI, nI_ltI, nI_eq, nI_cl, qin_eq, nI_add, nI_mul, qb_z, qb_t, qb_f, nI_ne0', Nat.reduceAdd, Bool.false_eq_true, if_false, if_true, true_and, and_true, Nat.reduceEqDiff, not_true_eq_false, not_false_eq_true, false_implies, true_implies, ite_true, ite_false]
    refine ⟨fun hh => by omega, fun _ => ?_⟩
    rw [qshl1 (by omega)]
    simp only [nI_and0 hl, eb]
    refine ⟨fun h9 => ih ?_ (by omega), fun h9 => ?_⟩
    · rcases Nat.lt_or_ge q (zlst F 30 1) with e | e
      · exact e
      · have : q = zlst F 30 1 := by omega
        rw [this, z3] at h9; cases h9
    · rcases Nat.lt_or_ge q (zlst F 30 1) with e | e
      · exact absurd (z4 q hq1 e) h9
      · have : q = zlst F 30 1 := by omega
        rw [this]
theorem zgrt_spec (F : Nat → Bool) : ∀ n, (∃ p, 1 ≤ p ∧ p ≤ n ∧ F p = true) → 1 ≤ zgrt F n ∧ zgrt F n ≤ n ∧ F (zgrt F n) = true ∧ ∀ j, zgrt F n < j → j ≤ n → F j = false
  | 0, h => by obtain ⟨p, h1, h2, -⟩ := h; omega
  | n + 1, h => by
    simp only [zgrt]
    by_cases e : F (n + 1) = true
    · rw [if_pos e]
      exact ⟨by omega, Nat.le_refl _, e, fun j j1 j2 => by omega⟩
    · rw [if_neg e]
      obtain ⟨p, h1, h2, h3⟩ := h
      have hp : p ≠ n + 1 := fun hh => e (hh ▸ h3)
      obtain ⟨a, b, c, d⟩ := zgrt_spec F n ⟨p, h1, by omega, h3⟩
      refine ⟨a, by omega, c, fun j j1 j2 => ?_⟩
      by_cases ej : j = n + 1
      · subst ej; simpa using e
      · exact d j j1 (by omega)
set_option maxRecDepth 20000 in
theorem x_greatest (σ : qSg) {F : Nat → Bool} (h : ∃ p, 1 ≤ p ∧ p ≤ 30 ∧ F p = true) : qFI 1 49 [qi (nI (bm 31 (zps F)))] σ (nI (zgrt F 30)) := by
  obtain ⟨z1, z2, z3, z4⟩ := zgrt_spec F 30 h
  have hl : bm 31 (zps F) < 2147483648 := bm_lt _ _
  refine qCI.of [some (qi (nI (bm 31 (zps F)))), none] ok_49 (Nat.le_of_ble_eq_true rfl) rfl ?_
  refine qV.go 30 [3] ok_49 ?_
  simp only [qW_nop, qW_iconst, qW_iconstm, qW_bipush, qW_iloadn, qW_istoren, qW_iincm, qW_iand, qW_ishl, qW_ifeq, qW_iclt, qW_goto, qW_iret0, Nat.reduceAdd, Nat.reduceMul, Nat.reduceBEq, Nat.reduceEqDiff, Nat.reduceLT, Nat.reduceLeDiff, Nat.zero_le, nI_add, nI_mul, nI_cl, qin_eq, qofI, qlg_0, qlg_s, qls_i0, qls_r0, qls_l0, qls_1, qls_2, qkl_i, qkl_r, qkl_l, qkl_n, qIsI_i, qIsL_l, qIsR_r, qint_i, qil_i, qil_r, qil_l, qf4_0, qf4_1, qf4_2, qf4_3, qf2_0, qf2_1, qcs_n, qcs_i, qcs_r, qcs_l, qst_n, qst_c, qJ_0, qJ_st, qJ_go, qfl_I, qfl_Z, qfl_L, qfl_R, qrI_i, qrL_l, qrV_v, qRcv_0, qRcv_s, eq_self, true_and, and_true, true_or, or_true, false_and, and_false, false_or, or_false, ite_true, if_true, if_false, Bool.true_or, Bool.false_or, Bool.or_false, beq_self_eq_true, Bool.false_eq_true, bX3_greatest_0, bX3_greatest_3, bX3_greatest_18, bX3_greatest_24, kX3_greatest_0, kX3_greatest_3, kX3_greatest_18, kX3_greatest_24, qK_41, qR_41_0, qK_13, qR_41_1, qK_25, qR_41_2, qK_42, qR_41_3, qK_43, qR_41_5, qK_44]
  refine qdown (n := 30 - zgrt F 30) (P := fun c => qV 49 1 (.inl fun v σ' => v = nI (zgrt F 30) ∧ σ' = σ) 3 [some (qi (nI (bm 31 (zps F)))), some (qi (nI (30 - c)))] [] σ) (fun c hc ih => ?_) 0 (Nat.zero_le _)
  have eb : (bm 31 (zps F)).testBit (30 - c) = F (30 - c) := by
    rw [bm_bit, decide_eq_true (by omega)]
    unfold zps
    rw [decide_eq_true (by omega)]
    rfl
  refine qV.go 30 [3] ok_49 ?_
  simp only [qW_nop, qW_iconst, qW_iconstm, qW_bipush, qW_iloadn, qW_istoren, qW_iincm, qW_iand, qW_ishl, qW_ifeq, qW_iclt, qW_goto, qW_iret0, Nat.reduceAdd, Nat.reduceMul, Nat.reduceBEq, Nat.reduceEqDiff, Nat.reduceLT, Nat.reduceLeDiff, Nat.zero_le, nI_add, nI_mul, nI_cl, qin_eq, qofI, qlg_0, qlg_s, qls_i0, qls_r0, qls_l0, qls_1, qls_2, qkl_i, qkl_r, qkl_l, qkl_n, qIsI_i, qIsL_l, qIsR_r, qint_i, qil_i, qil_r, qil_l, qf4_0, qf4_1, qf4_2, qf4_3, qf2_0, qf2_1, qcs_n, qcs_i, qcs_r, qcs_l, qst_n, qst_c, qJ_0, qJ_st, qJ_go, qfl_I, qfl_Z, qfl_L, qfl_R, qrI_i, qrL_l, qrV_v, qRcv_0, qRcv_s, eq_self, true_and, and_true, true_or, or_true, false_and, and_false, false_or, or_false, ite_true, if_true, if_false, Bool.true_or, Bool.false_or, Bool.or_false, beq_self_eq_true, Bool.false_eq_true, bX3_greatest_0, bX3_greatest_3, bX3_greatest_18, bX3_greatest_24, kX3_greatest_0, kX3_greatest_3, kX3_greatest_18, kX3_greatest_24, qK_41, qR_41_0, qK_13, qR_41_1, qK_25, qR_41_2, qK_42, qR_41_3, qK_43, qR_41_5, qK_44]
  simp (disch := omega) only [nI_leI, nI_ltI, nI_eq, nI_cl, qin_eq, nI_add, nI_mul, qb_z, qb_t, qb_f, nI_ne0', Nat.reduceAdd, Bool.false_eq_true, if_false, if_true, true_and, and_true, Nat.reduceEqDiff, not_true_eq_false, not_false_eq_true, false_implies, true_implies, ite_true, ite_false]
  refine ⟨fun hh => by omega, fun _ => ?_⟩
  rw [qshl1 (by omega)]
  simp only [nI_and0 hl, eb]
  refine ⟨fun h9 => ?_, fun h9 => ?_⟩
  · have hlt : c < 30 - zgrt F 30 := by
      rcases Nat.lt_or_ge c (30 - zgrt F 30) with e | e
      · exact e
      · have : 30 - c = zgrt F 30 := by omega
        rw [this, z3] at h9; cases h9
    have := ih hlt
    have e2 : nI (30 - c) + iI (-1) = nI (30 - (c + 1)) := by
      rw [iI_nat, iI_nat, iI_add]
      congr 1
      omega
    rw [e2]
    exact this
  · rcases Nat.lt_or_ge c (30 - zgrt F 30) with e | e
    · exact absurd (z4 (30 - c) (by omega) (by omega)) h9
    · have : 30 - c = zgrt F 30 := by omega
      rw [this]
