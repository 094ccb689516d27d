/-! the class: quarrels apart -/
theorem zcount_or (a b : Nat → Bool) : ∀ n, zcount (fun i => a i || b i) n + zcount (fun i => a i && b i) n = zcount a n + zcount b n
  | 0 => rfl
  | n + 1 => by
    have ih := zcount_or a b n
    simp only [zcount]
    by_cases ha : a n = true <;> by_cases hb : b n = true <;> simp [ha, hb] <;> omega
theorem zpop_or (a b : Nat) : zpop (a ||| b) + zpop (a &&& b) = zpop a + zpop b := by
  have h := zcount_or (fun i => a.testBit i) (fun i => b.testBit i) 32
  have e1 : zcount (fun i => (a ||| b).testBit i) 32 = zcount (fun i => a.testBit i || b.testBit i) 32 := zcount_cg _ fun i _ => Nat.testBit_or _ _ _
  have e2 : zcount (fun i => (a &&& b).testBit i) 32 = zcount (fun i => a.testBit i && b.testBit i) 32 := zcount_cg _ fun i _ => Nat.testBit_and _ _ _
  unfold zpop
  rw [zpopf_count, zpopf_count, zpopf_count, zpopf_count, e1, e2]
  exact h
theorem zpop_p : ∀ k, k < 8 → zpop (2 ^ k) = 1 := by decide
theorem zpop_both {C : zC} (hw : zW C) {q : Nat} (hq : q < C 0 1) : zpop (zboth C q) = 2 := by
  have g := hw.2.2.2.2.2.2.2.2.2 q hq
  have wb := hw.1
  have h := zpop_or (2 ^ C 6 q) (2 ^ C 7 q)
  have e : 2 ^ C 6 q &&& 2 ^ C 7 q = 0 := by
    rw [zand_p0, Nat.testBit_two_pow]
    exact decide_eq_false g.2.2.1
  have h6 := zpop_p (C 6 q) (by omega)
  have h7 := zpop_p (C 7 q) (by omega)
  have h0 := zpop_0
  rw [e] at h
  unfold zboth
  omega
/-- none of the set's quarrels meets one before it -/
def zap (C : zC) (s q : Nat) : Bool := zall (fun i => !(s.testBit i) || decide (zun C s i &&& zboth C i = 0)) q
theorem zun_pop {C : zC} (hw : zW C) (s : Nat) : ∀ q, q ≤ C 0 1 → zpop (zun C s q) ≤ 2 * zcount (fun i => s.testBit i) q ∧ (zap C s q = true ↔ zpop (zun C s q) = 2 * zcount (fun i => s.testBit i) q)
  | 0, _ => ⟨by show zpop 0 ≤ 0; rw [zpop_0]; omega, ⟨fun _ => zpop_0, fun _ => rfl⟩⟩
  | q + 1, hq => by
    obtain ⟨i1, i2⟩ := zun_pop hw s q (by omega)
    have e : zun C s (q + 1) = if s.testBit q then zun C s q ||| zboth C q else zun C s q := rfl
    have ea : zap C s (q + 1) = (zap C s q && (!(s.testBit q) || decide (zun C s q &&& zboth C q = 0))) := rfl
    have ec : zcount (fun i => s.testBit i) (q + 1) = zcount (fun i => s.testBit i) q + (if s.testBit q = true then 1 else 0) := rfl
    rw [e, ea, ec]
    by_cases h : s.testBit q = true
    · rw [if_pos h, if_pos h, h]
      have h1 := zpop_or (zun C s q) (zboth C q)
      have h2 := zpop_both hw (show q < C 0 1 by omega)
      have hl := zun_lt hw s q (by omega)
      have h3 := zpop_0' (n := zun C s q &&& zboth C q) (Nat.lt_of_le_of_lt Nat.and_le_left (by omega))
      refine ⟨by omega, ?_⟩
      rw [Bool.and_eq_true, i2]
      simp only [Bool.not_true, Bool.false_or, decide_eq_true_eq]
      rw [← h3]
      omega
    · rw [if_neg h, if_neg h]
      have h : s.testBit q = false := by simpa using h
      rw [h]
      simp only [Bool.not_false, Bool.true_or, Bool.and_true, Nat.add_zero]
      exact ⟨i1, i2⟩
theorem zcount_false : ∀ n, zcount (fun _ => false) n = 0
  | 0 => rfl
  | n + 1 => by
    have := zcount_false n
    simp only [zcount]
    rw [this]
    rfl
theorem zpop_cnt {s n : Nat} (hs : s < 2 ^ n) (hn : n ≤ 32) : zpop s = zcount (fun i => s.testBit i) n := by
  unfold zpop
  rw [zpopf_count, show 32 = n + (32 - n) by omega, zcount_add]
  have : zcount (fun i => s.testBit (n + i)) (32 - n) = 0 := by
    rw [zcount_cg (p' := fun _ => false) (32 - n) (fun i _ => Nat.testBit_lt_two_pow (Nat.lt_of_lt_of_le hs (Nat.pow_le_pow_right (by decide) (by omega)))), zcount_false]
  omega
set_option maxRecDepth 20000 in
theorem x_isApart {σ : qSg} {r : Nat} {C : zC} (hr : zCb r) (h : zX0 σ r C) (hw : zW C) {s : Nat} (hs : s < 2147483648) : qFI 3 82 [qr r, qi (nI s)] σ (qb (zap C s (C 0 1))) := by
  obtain ⟨wb, wq, ww1, ww2, wh1, wh2, wo, wm, wB, wQ⟩ := id hw
  refine qCI.of [some (qr r), some (qi (nI s)), none, none, none] ok_82 (Nat.le_of_ble_eq_true rfl) rfl ?_
  refine qV.go 30 [4] ok_82 ?_
  simp only [qW_nop, qW_iconst, qW_iloadn, qW_iload, qW_aloadn, qW_istoren, qW_istore, qW_iinc, qW_iand, qW_ior, qW_ishl, qW_ifeq, qW_icge, qW_goto, qW_getf, qW_cs2_0, qW_iret1, Nat.reduceAdd, Nat.reduceMul, Nat.reduceBEq, Nat.reduceEqDiff, Nat.reduceLT, Nat.reduceLeDiff, Nat.zero_le, nI_add, nI_mul, nI_cl, qin_eq, qofI, qlg_0, qlg_s, qls_i0, qls_r0, qls_l0, qls_1, qls_2, qkl_i, qkl_r, qkl_l, qkl_n, qIsI_i, qIsL_l, qIsR_r, qint_i, qil_i, qil_r, qil_l, qf4_0, qf4_1, qf4_2, qf4_3, qf2_0, qf2_1, qcs_n, qcs_i, qcs_r, qcs_l, qst_n, qst_c, qJ_0, qJ_st, qJ_go, qfl_I, qfl_Z, qfl_L, qfl_R, qrI_i, qrL_l, qrV_v, qRcv_0, qRcv_s, eq_self, true_and, and_true, true_or, or_true, false_and, and_false, false_or, or_false, ite_true, if_true, if_false, Bool.true_or, Bool.false_or, Bool.or_false, beq_self_eq_true, Bool.false_eq_true, bX6_isApart_0, bX6_isApart_4, bX6_isApart_36, bX6_isApart_41, bX6_isApart_47, kX6_isApart_0, kX6_isApart_4, kX6_isApart_36, kX6_isApart_41, kX6_isApart_47, zCb_k hr, zCb_6 hr, zCb_7 hr, zCb_8 hr, zCb_9 hr, zCb_10 hr, zCb_11 hr, zCb_12 hr, zCb_13 hr, zCb_14 hr, zCb_15 hr, zCb_16 hr, zCb_a1 hr, zCb_a2 hr, zCb_a3 hr, zCb_a4 hr, zCb_a5 hr, zCb_a6 hr, zCb_a7 hr, zCb_a8 hr, zCb_a9 hr, zCb_a10 hr, zCb_a11 hr]
  refine qdown (n := C 0 1) (P := fun q => ∀ l4 : Option qPV, (∀ i, i < q → (!(s.testBit i) || decide (zun C s i &&& zboth C i = 0)) = true) → qV 82 3 (.inl fun v σ' => v = qb (zap C s (C 0 1)) ∧ σ' = σ) 4 [some (qr r), some (qi (nI s)), some (qi (nI (zun C s q))), some (qi (nI q)), l4] [] σ) (fun q hq ih => ?_) 0 (Nat.zero_le _) none (fun i hi => absurd hi (Nat.not_lt_zero _))
  intro l4 hp
  refine qV.go 30 [4, 36, 41] ok_82 ?_
  simp only [qW_nop, qW_iconst, qW_iloadn, qW_iload, qW_aloadn, qW_istoren, qW_istore, qW_iinc, qW_iand, qW_ior, qW_ishl, qW_ifeq, qW_icge, qW_goto, qW_getf, qW_cs2_0, qW_iret1, Nat.reduceAdd, Nat.reduceMul, Nat.reduceBEq, Nat.reduceEqDiff, Nat.reduceLT, Nat.reduceLeDiff, Nat.zero_le, nI_add, nI_mul, nI_cl, qin_eq, qofI, qlg_0, qlg_s, qls_i0, qls_r0, qls_l0, qls_1, qls_2, qkl_i, qkl_r, qkl_l, qkl_n, qIsI_i, qIsL_l, qIsR_r, qint_i, qil_i, qil_r, qil_l, qf4_0, qf4_1, qf4_2, qf4_3, qf2_0, qf2_1, qcs_n, qcs_i, qcs_r, qcs_l, qst_n, qst_c, qJ_0, qJ_st, qJ_go, qfl_I, qfl_Z, qfl_L, qfl_R, qrI_i, qrL_l, qrV_v, qRcv_0, qRcv_s, eq_self, true_and, and_true, true_or, or_true, false_and, and_false, false_or, or_false, ite_true, if_true, if_false, Bool.true_or, Bool.false_or, Bool.or_false, beq_self_eq_true, Bool.false_eq_true, bX6_isApart_0, bX6_isApart_4, bX6_isApart_36, bX6_isApart_41, bX6_isApart_47, kX6_isApart_0, kX6_isApart_4, kX6_isApart_36, kX6_isApart_41, kX6_isApart_47, zCb_k hr, zCb_6 hr, zCb_7 hr, zCb_8 hr, zCb_9 hr, zCb_10 hr, zCb_11 hr, zCb_12 hr, zCb_13 hr, zCb_14 hr, zCb_15 hr, zCb_16 hr, zCb_a1 hr, zCb_a2 hr, zCb_a3 hr, zCb_a4 hr, zCb_a5 hr, zCb_a6 hr, zCb_a7 hr, zCb_a8 hr, zCb_a9 hr, zCb_a10 hr, zCb_a11 hr]
  rw [h.q]
  simp (disch := omega) only [nI_leI, nI_ltI, nI_eq, nI_cl, qin_eq, nI_add, nI_mul, qb_z, qb_t, qb_f, nI_ne0', Nat.reduceAdd, Bool.false_eq_true, if_false, if_true, true_and, and_true, Nat.reduceEqDiff, not_true_eq_false, not_false_eq_true, false_implies, true_implies, ite_true, ite_false]
  refine ⟨fun g => ?_, fun g => ?_⟩
  · have : q = C 0 1 := by omega
    subst this
    have : zap C s (C 0 1) = true := (zall_iff _ _).mpr hp
    rw [this]
    rfl
  · have hq1 : q < C 0 1 := by omega
    have g9 := wQ q hq1
    have hl := zun_lt hw s q (by omega)
    have e : zun C s (q + 1) = if s.testBit q then zun C s q ||| zboth C q else zun C s q := rfl
    have nx : ∀ v l4, v = nI (zun C s (q + 1)) → (!(s.testBit q) || decide (zun C s q &&& zboth C q = 0)) = true → qV 82 3 (.inl fun v σ' => v = qb (zap C s (C 0 1)) ∧ σ' = σ) 41 [some (qr r), some (qi (nI s)), some (qi v), some (qi (nI q)), l4] [] σ := by
      intro v l4 hv hz
      subst hv
      have := ih hq1 l4 (fun i hi => by
        by_cases e : i = q
        · subst e; exact hz
        · exact hp i (by omega))
      refine qV.go 30 [4] ok_82 ?_
      simp only [qW_nop, qW_iconst, qW_iloadn, qW_iload, qW_aloadn, qW_istoren, qW_istore, qW_iinc, qW_iand, qW_ior, qW_ishl, qW_ifeq, qW_icge, qW_goto, qW_getf, qW_cs2_0, qW_iret1, Nat.reduceAdd, Nat.reduceMul, Nat.reduceBEq, Nat.reduceEqDiff, Nat.reduceLT, Nat.reduceLeDiff, Nat.zero_le, nI_add, nI_mul, nI_cl, qin_eq, qofI, qlg_0, qlg_s, qls_i0, qls_r0, qls_l0, qls_1, qls_2, qkl_i, qkl_r, qkl_l, qkl_n, qIsI_i, qIsL_l, qIsR_r, qint_i, qil_i, qil_r, qil_l, qf4_0, qf4_1, qf4_2, qf4_3, qf2_0, qf2_1, qcs_n, qcs_i, qcs_r, qcs_l, qst_n, qst_c, qJ_0, qJ_st, qJ_go, qfl_I, qfl_Z, qfl_L, qfl_R, qrI_i, qrL_l, qrV_v, qRcv_0, qRcv_s, eq_self, true_and, and_true, true_or, or_true, false_and, and_false, false_or, or_false, ite_true, if_true, if_false, Bool.true_or, Bool.false_or, Bool.or_false, beq_self_eq_true, Bool.false_eq_true, bX6_isApart_0, bX6_isApart_4, bX6_isApart_36, bX6_isApart_41, bX6_isApart_47, kX6_isApart_0, kX6_isApart_4, kX6_isApart_36, kX6_isApart_41, kX6_isApart_47, zCb_k hr, zCb_6 hr, zCb_7 hr, zCb_8 hr, zCb_9 hr, zCb_10 hr, zCb_11 hr, zCb_12 hr, zCb_13 hr, zCb_14 hr, zCb_15 hr, zCb_16 hr, zCb_a1 hr, zCb_a2 hr, zCb_a3 hr, zCb_a4 hr, zCb_a5 hr, zCb_a6 hr, zCb_a7 hr, zCb_a8 hr, zCb_a9 hr, zCb_a10 hr, zCb_a11 hr]
      exact this
    rw [qshl1 (by omega)]
    simp only [nI_and0 hs]
    rw [e] at nx
    refine ⟨fun hb => nx _ _ (by rw [hb]; rfl) (by rw [hb]; rfl), fun hb => ?_⟩
    have hb : s.testBit q = true := by simpa using hb
    refine qBI.fn (x_pairOf hr h hw hq1) (by decide) ?_
    rw [nI_and, nI_ne0' (Nat.lt_of_le_of_lt Nat.and_le_left (by omega))]
    refine ⟨fun h8 => ?_, fun h8 => ?_⟩
    · refine qV.go 30 [41] ok_82 ?_
      simp only [qW_nop, qW_iconst, qW_iloadn, qW_iload, qW_aloadn, qW_istoren, qW_istore, qW_iinc, qW_iand, qW_ior, qW_ishl, qW_ifeq, qW_icge, qW_goto, qW_getf, qW_cs2_0, qW_iret1, Nat.reduceAdd, Nat.reduceMul, Nat.reduceBEq, Nat.reduceEqDiff, Nat.reduceLT, Nat.reduceLeDiff, Nat.zero_le, nI_add, nI_mul, nI_cl, qin_eq, qofI, qlg_0, qlg_s, qls_i0, qls_r0, qls_l0, qls_1, qls_2, qkl_i, qkl_r, qkl_l, qkl_n, qIsI_i, qIsL_l, qIsR_r, qint_i, qil_i, qil_r, qil_l, qf4_0, qf4_1, qf4_2, qf4_3, qf2_0, qf2_1, qcs_n, qcs_i, qcs_r, qcs_l, qst_n, qst_c, qJ_0, qJ_st, qJ_go, qfl_I, qfl_Z, qfl_L, qfl_R, qrI_i, qrL_l, qrV_v, qRcv_0, qRcv_s, eq_self, true_and, and_true, true_or, or_true, false_and, and_false, false_or, or_false, ite_true, if_true, if_false, Bool.true_or, Bool.false_or, Bool.or_false, beq_self_eq_true, Bool.false_eq_true, bX6_isApart_0, bX6_isApart_4, bX6_isApart_36, bX6_isApart_41, bX6_isApart_47, kX6_isApart_0, kX6_isApart_4, kX6_isApart_36, kX6_isApart_41, kX6_isApart_47, zCb_k hr, zCb_6 hr, zCb_7 hr, zCb_8 hr, zCb_9 hr, zCb_10 hr, zCb_11 hr, zCb_12 hr, zCb_13 hr, zCb_14 hr, zCb_15 hr, zCb_16 hr, zCb_a1 hr, zCb_a2 hr, zCb_a3 hr, zCb_a4 hr, zCb_a5 hr, zCb_a6 hr, zCb_a7 hr, zCb_a8 hr, zCb_a9 hr, zCb_a10 hr, zCb_a11 hr]
      rw [nI_or]
      exact nx _ _ (by rw [hb]; rfl) (by rw [h8]; simp)
    · have : zap C s (C 0 1) = false := by
        cases hz : zap C s (C 0 1) with
        | false => rfl
        | true =>
          have := (zall_iff _ _).mp hz q hq1
          simp [hb, h8] at this
      rw [this]
      exact ⟨rfl, rfl⟩
set_option maxRecDepth 20000 in
theorem x_mostApart {σ : qSg} {r : Nat} {C : zC} (hr : zCb r) (h : zX0 σ r C) (hw : zW C) : qFI 4 81 [qr r] σ (nI (zapart C)) := by
  obtain ⟨wb, wq, ww1, ww2, wh1, wh2, wo, wm, wB, wQ⟩ := id hw
  have hp := Nat.two_pow_pos (C 0 1)
  have hp2 := zpow_le2 hw
  have ol := zopens_lt hw
  refine qCI.of [some (qr r), none, none, none, none] ok_81 (Nat.le_of_ble_eq_true rfl) rfl ?_
  refine qV.go 30 [9] ok_81 ?_
  simp only [qW_nop, qW_iconst, qW_iconstm, qW_iloadn, qW_iload, qW_aloadn, qW_istoren, qW_istore, qW_iinc, qW_iand, qW_ixor, qW_ishl, qW_ifeq, qW_ifne, qW_icge, qW_icle, qW_goto, qW_getf, qW_cs1_0, qW_cs2_0, qW_cv1_0, qW_iret0, Nat.reduceAdd, Nat.reduceMul, Nat.reduceBEq, Nat.reduceEqDiff, Nat.reduceLT, Nat.reduceLeDiff, Nat.zero_le, nI_add, nI_mul, nI_cl, qin_eq, qofI, qlg_0, qlg_s, qls_i0, qls_r0, qls_l0, qls_1, qls_2, qkl_i, qkl_r, qkl_l, qkl_n, qIsI_i, qIsL_l, qIsR_r, qint_i, qil_i, qil_r, qil_l, qf4_0, qf4_1, qf4_2, qf4_3, qf2_0, qf2_1, qcs_n, qcs_i, qcs_r, qcs_l, qst_n, qst_c, qJ_0, qJ_st, qJ_go, qfl_I, qfl_Z, qfl_L, qfl_R, qrI_i, qrL_l, qrV_v, qRcv_0, qRcv_s, eq_self, true_and, and_true, true_or, or_true, false_and, and_false, false_or, or_false, ite_true, if_true, if_false, Bool.true_or, Bool.false_or, Bool.or_false, beq_self_eq_true, Bool.false_eq_true, bX6_mostApart_0, bX6_mostApart_9, bX6_mostApart_34, bX6_mostApart_35, bX6_mostApart_60, bX6_mostApart_66, kX6_mostApart_0, kX6_mostApart_9, kX6_mostApart_34, kX6_mostApart_35, kX6_mostApart_60, kX6_mostApart_66, zCb_k hr, zCb_6 hr, zCb_7 hr, zCb_8 hr, zCb_9 hr, zCb_10 hr, zCb_11 hr, zCb_12 hr, zCb_13 hr, zCb_14 hr, zCb_15 hr, zCb_16 hr, zCb_a1 hr, zCb_a2 hr, zCb_a3 hr, zCb_a4 hr, zCb_a5 hr, zCb_a6 hr, zCb_a7 hr, zCb_a8 hr, zCb_a9 hr, zCb_a10 hr, zCb_a11 hr]
  refine qBI.fn (x_openSet hr h hw) (by decide) ?_
  refine qdown (n := 2 ^ C 0 1) (P := fun s => ∀ l4 : Option qPV, qV 81 4 (.inl fun v σ' => v = nI (zapart C) ∧ σ' = σ) 9 [some (qr r), some (qi (nI (zopens C))), some (qi (nI (zaf C s))), some (qi (nI s)), l4] [] σ) (fun s hs ih => ?_) 0 (Nat.zero_le _) none
  intro l4
  have hl := zaf_lt hw s hs
  have e : zaf C (s + 1) = if zsub s (zopens C) = true ∧ zpop (zaf C s) < zpop s ∧ zpop (zun C s (C 0 1)) = 2 * zpop s then s else zaf C s := rfl
  refine qV.go 30 [9, 34, 60] ok_81 ?_
  simp only [qW_nop, qW_iconst, qW_iconstm, qW_iloadn, qW_iload, qW_aloadn, qW_istoren, qW_istore, qW_iinc, qW_iand, qW_ixor, qW_ishl, qW_ifeq, qW_ifne, qW_icge, qW_icle, qW_goto, qW_getf, qW_cs1_0, qW_cs2_0, qW_cv1_0, qW_iret0, Nat.reduceAdd, Nat.reduceMul, Nat.reduceBEq, Nat.reduceEqDiff, Nat.reduceLT, Nat.reduceLeDiff, Nat.zero_le, nI_add, nI_mul, nI_cl, qin_eq, qofI, qlg_0, qlg_s, qls_i0, qls_r0, qls_l0, qls_1, qls_2, qkl_i, qkl_r, qkl_l, qkl_n, qIsI_i, qIsL_l, qIsR_r, qint_i, qil_i, qil_r, qil_l, qf4_0, qf4_1, qf4_2, qf4_3, qf2_0, qf2_1, qcs_n, qcs_i, qcs_r, qcs_l, qst_n, qst_c, qJ_0, qJ_st, qJ_go, qfl_I, qfl_Z, qfl_L, qfl_R, qrI_i, qrL_l, qrV_v, qRcv_0, qRcv_s, eq_self, true_and, and_true, true_or, or_true, false_and, and_false, false_or, or_false, ite_true, if_true, if_false, Bool.true_or, Bool.false_or, Bool.or_false, beq_self_eq_true, Bool.false_eq_true, bX6_mostApart_0, bX6_mostApart_9, bX6_mostApart_34, bX6_mostApart_35, bX6_mostApart_60, bX6_mostApart_66, kX6_mostApart_0, kX6_mostApart_9, kX6_mostApart_34, kX6_mostApart_35, kX6_mostApart_60, kX6_mostApart_66, zCb_k hr, zCb_6 hr, zCb_7 hr, zCb_8 hr, zCb_9 hr, zCb_10 hr, zCb_11 hr, zCb_12 hr, zCb_13 hr, zCb_14 hr, zCb_15 hr, zCb_16 hr, zCb_a1 hr, zCb_a2 hr, zCb_a3 hr, zCb_a4 hr, zCb_a5 hr, zCb_a6 hr, zCb_a7 hr, zCb_a8 hr, zCb_a9 hr, zCb_a10 hr, zCb_a11 hr]
  rw [h.q, qshl1 (by omega)]
  simp (disch := omega) only [nI_leI, nI_ltI, nI_eq, nI_cl, qin_eq, nI_add, nI_mul, qb_z, qb_t, qb_f, nI_ne0', Nat.reduceAdd, Bool.false_eq_true, if_false, if_true, true_and, and_true, Nat.reduceEqDiff, not_true_eq_false, not_false_eq_true, false_implies, true_implies, ite_true, ite_false]
  refine ⟨fun g => ?_, fun g => ?_⟩
  · have : s = 2 ^ C 0 1 := by omega
    subst this
    rfl
  · have hs1 : s < 2 ^ C 0 1 := by omega
    have st : ∀ v l4, v = nI (zaf C (s + 1)) → qV 81 4 (.inl fun v σ' => v = nI (zapart C) ∧ σ' = σ) 60 [some (qr r), some (qi (nI (zopens C))), some (qi v), some (qi (nI s)), l4] [] σ := by
      intro v l4 hv
      subst hv
      refine qV.go 30 [9] ok_81 ?_
      simp only [qW_nop, qW_iconst, qW_iconstm, qW_iloadn, qW_iload, qW_aloadn, qW_istoren, qW_istore, qW_iinc, qW_iand, qW_ixor, qW_ishl, qW_ifeq, qW_ifne, qW_icge, qW_icle, qW_goto, qW_getf, qW_cs1_0, qW_cs2_0, qW_cv1_0, qW_iret0, Nat.reduceAdd, Nat.reduceMul, Nat.reduceBEq, Nat.reduceEqDiff, Nat.reduceLT, Nat.reduceLeDiff, Nat.zero_le, nI_add, nI_mul, nI_cl, qin_eq, qofI, qlg_0, qlg_s, qls_i0, qls_r0, qls_l0, qls_1, qls_2, qkl_i, qkl_r, qkl_l, qkl_n, qIsI_i, qIsL_l, qIsR_r, qint_i, qil_i, qil_r, qil_l, qf4_0, qf4_1, qf4_2, qf4_3, qf2_0, qf2_1, qcs_n, qcs_i, qcs_r, qcs_l, qst_n, qst_c, qJ_0, qJ_st, qJ_go, qfl_I, qfl_Z, qfl_L, qfl_R, qrI_i, qrL_l, qrV_v, qRcv_0, qRcv_s, eq_self, true_and, and_true, true_or, or_true, false_and, and_false, false_or, or_false, ite_true, if_true, if_false, Bool.true_or, Bool.false_or, Bool.or_false, beq_self_eq_true, Bool.false_eq_true, bX6_mostApart_0, bX6_mostApart_9, bX6_mostApart_34, bX6_mostApart_35, bX6_mostApart_60, bX6_mostApart_66, kX6_mostApart_0, kX6_mostApart_9, kX6_mostApart_34, kX6_mostApart_35, kX6_mostApart_60, kX6_mostApart_66, zCb_k hr, zCb_6 hr, zCb_7 hr, zCb_8 hr, zCb_9 hr, zCb_10 hr, zCb_11 hr, zCb_12 hr, zCb_13 hr, zCb_14 hr, zCb_15 hr, zCb_16 hr, zCb_a1 hr, zCb_a2 hr, zCb_a3 hr, zCb_a4 hr, zCb_a5 hr, zCb_a6 hr, zCb_a7 hr, zCb_a8 hr, zCb_a9 hr, zCb_a10 hr, zCb_a11 hr]
      exact ih (by omega) l4
    rw [e] at st
    refine qBI.fn (x_bits σ (by omega)) (by decide) (qBI.fn (x_bits σ (by omega)) (by decide) ?_)
    have p1 : zpop s ≤ 31 := zpop_le (k := 31) (by omega)
    have p2 : zpop (zaf C s) ≤ 31 := zpop_le (k := 31) (by omega)
    have ap := (zun_pop hw s (C 0 1) (Nat.le_refl _)).2
    rw [← zpop_cnt hs1 (by omega)] at ap
    simp (disch := omega) only [nI_leI, nI_ltI, nI_eq, nI_cl, qin_eq, nI_add, nI_mul, qb_z, qb_t, qb_f, nI_ne0', Nat.reduceAdd, Bool.false_eq_true, if_false, if_true, true_and, and_true, Nat.reduceEqDiff, not_true_eq_false, not_false_eq_true, false_implies, true_implies, ite_true, ite_false]
    refine ⟨fun h1 => ?_, fun h1 => ?_⟩
    · refine qV.go 30 [60] ok_81 ?_
      simp only [qW_nop, qW_iconst, qW_iconstm, qW_iloadn, qW_iload, qW_aloadn, qW_istoren, qW_istore, qW_iinc, qW_iand, qW_ixor, qW_ishl, qW_ifeq, qW_ifne, qW_icge, qW_icle, qW_goto, qW_getf, qW_cs1_0, qW_cs2_0, qW_cv1_0, qW_iret0, Nat.reduceAdd, Nat.reduceMul, Nat.reduceBEq, Nat.reduceEqDiff, Nat.reduceLT, Nat.reduceLeDiff, Nat.zero_le, nI_add, nI_mul, nI_cl, qin_eq, qofI, qlg_0, qlg_s, qls_i0, qls_r0, qls_l0, qls_1, qls_2, qkl_i, qkl_r, qkl_l, qkl_n, qIsI_i, qIsL_l, qIsR_r, qint_i, qil_i, qil_r, qil_l, qf4_0, qf4_1, qf4_2, qf4_3, qf2_0, qf2_1, qcs_n, qcs_i, qcs_r, qcs_l, qst_n, qst_c, qJ_0, qJ_st, qJ_go, qfl_I, qfl_Z, qfl_L, qfl_R, qrI_i, qrL_l, qrV_v, qRcv_0, qRcv_s, eq_self, true_and, and_true, true_or, or_true, false_and, and_false, false_or, or_false, ite_true, if_true, if_false, Bool.true_or, Bool.false_or, Bool.or_false, beq_self_eq_true, Bool.false_eq_true, bX6_mostApart_0, bX6_mostApart_9, bX6_mostApart_34, bX6_mostApart_35, bX6_mostApart_60, bX6_mostApart_66, kX6_mostApart_0, kX6_mostApart_9, kX6_mostApart_34, kX6_mostApart_35, kX6_mostApart_60, kX6_mostApart_66, zCb_k hr, zCb_6 hr, zCb_7 hr, zCb_8 hr, zCb_9 hr, zCb_10 hr, zCb_11 hr, zCb_12 hr, zCb_13 hr, zCb_14 hr, zCb_15 hr, zCb_16 hr, zCb_a1 hr, zCb_a2 hr, zCb_a3 hr, zCb_a4 hr, zCb_a5 hr, zCb_a6 hr, zCb_a7 hr, zCb_a8 hr, zCb_a9 hr, zCb_a10 hr, zCb_a11 hr]
      simp (disch := omega) only [nI_leI, nI_ltI, nI_eq, nI_cl, qin_eq, nI_add, nI_mul, qb_z, qb_t, qb_f, nI_ne0', Nat.reduceAdd, Bool.false_eq_true, if_false, if_true, true_and, and_true, Nat.reduceEqDiff, not_true_eq_false, not_false_eq_true, false_implies, true_implies, ite_true, ite_false]
      exact st _ _ (by rw [if_neg (fun hh => by omega)])
    · rw [nI_notin0 (by omega)]
      refine ⟨fun h2 => st _ _ (by rw [if_neg (fun hh => h2 hh.1)]), fun h2 => ?_⟩
      refine qBI.fn (x_isApart hr h hw (by omega)) (by decide) ?_
      simp (disch := omega) only [nI_leI, nI_ltI, nI_eq, nI_cl, qin_eq, nI_add, nI_mul, qb_z, qb_t, qb_f, nI_ne0', Nat.reduceAdd, Bool.false_eq_true, if_false, if_true, true_and, and_true, Nat.reduceEqDiff, not_true_eq_false, not_false_eq_true, false_implies, true_implies, ite_true, ite_false]
      refine ⟨fun h3 => st _ _ ?_, fun h3 => st _ _ ?_⟩
      · rw [if_neg (fun hh => by rw [ap.mpr hh.2.2] at h3; cases h3)]
      · rw [if_pos ⟨h2, by omega, ap.mp (by simpa using h3)⟩]
