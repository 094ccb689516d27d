/-! the class: yields, dawns, new quarrels and boys, copies -/
set_option maxRecDepth 20000 in
theorem x_giveIn {σ : qSg} {r : Nat} {C : zC} (hr : zCb r) (h : zX σ r C) (hw : zW C) {b : Nat} (hb : b < C 0 0) : qCI 3 31 [qr r, qi (nI b)] σ (fun v σ' => v = nI (zpop (zof C b)) ∧ zX σ' r (zgive C b) ∧ zF (zXf r) σ σ') := by
  obtain ⟨wb, wq, ww1, ww2, wh1, wh2, wo, wm, wB, wQ⟩ := id hw
  have hpo : zpop (zof C b) = zcount (fun q => zOpen C q && zin C q b) (C 0 1) := zpop_bm (by omega)
  rw [hpo]
  refine qCI.of [some (qr r), some (qi (nI b)), none, none] ok_31 (Nat.le_of_ble_eq_true rfl) rfl ?_
  refine qV.go 30 [4] ok_31 ?_
  simp only [qW_nop, qW_iconst, qW_iloadn, qW_aloadn, qW_istoren, qW_iinc, qW_pop, qW_iceq, qW_ifne, qW_icne, qW_icge, qW_goto, qW_getf, qW_iald, qW_cv4_0, qW_iret0, Nat.reduceAdd, Nat.reduceMul, Nat.reduceBEq, Nat.reduceEqDiff, Nat.reduceLT, Nat.reduceLeDiff, Nat.zero_le, nI_add, nI_mul, nI_cl, qin_eq, qofI, qlg_0, qlg_s, qls_i0, qls_r0, qls_l0, qls_1, qls_2, qkl_i, qkl_r, qkl_l, qkl_n, qIsI_i, qIsL_l, qIsR_r, qint_i, qil_i, qil_r, qil_l, qf4_0, qf4_1, qf4_2, qf4_3, qf2_0, qf2_1, qcs_n, qcs_i, qcs_r, qcs_l, qst_n, qst_c, qJ_0, qJ_st, qJ_go, qfl_I, qfl_Z, qfl_L, qfl_R, qrI_i, qrL_l, qrV_v, qRcv_0, qRcv_s, eq_self, true_and, and_true, true_or, or_true, false_and, and_false, false_or, or_false, ite_true, if_true, if_false, Bool.true_or, Bool.false_or, Bool.or_false, beq_self_eq_true, Bool.false_eq_true, bX1_giveIn_0, bX1_giveIn_4, bX1_giveIn_41, bX1_giveIn_57, bX1_giveIn_58, bX1_giveIn_72, bX1_giveIn_73, bX1_giveIn_80, bX1_giveIn_86, kX1_giveIn_0, kX1_giveIn_4, kX1_giveIn_41, kX1_giveIn_57, kX1_giveIn_58, kX1_giveIn_72, kX1_giveIn_73, kX1_giveIn_80, kX1_giveIn_86, zCb_k hr, zCb_6 hr, zCb_7 hr, zCb_8 hr, zCb_9 hr, zCb_10 hr, zCb_11 hr, zCb_12 hr, zCb_13 hr, zCb_14 hr, zCb_15 hr, zCb_16 hr, zCb_a1 hr, zCb_a2 hr, zCb_a3 hr, zCb_a4 hr, zCb_a5 hr, zCb_a6 hr, zCb_a7 hr, zCb_a8 hr, zCb_a9 hr, zCb_a10 hr, zCb_a11 hr]
  refine qdown (n := C 0 1) (P := fun q => ∀ σ1, zX σ1 r (zgf b C q) → zF (zXf r) σ σ1 → qV 31 3 (.inl fun v σ' => v = nI (zcount (fun q => zOpen C q && zin C q b) (C 0 1)) ∧ zX σ' r (zgive C b) ∧ zF (zXf r) σ σ') 4 [some (qr r), some (qi (nI b)), some (qi (nI (zcount (fun q => zOpen C q && zin C q b) q))), some (qi (nI q))] [] σ1) (fun q hq ih => ?_) 0 (Nat.zero_le _) σ h zF.rf
  intro σ1 a1 f1
  have w1 := zgf_W hw b q
  have e01 := zgf_q b C 0 1 (by decide) (by decide) q
  have e00 := zgf_q b C 0 0 (by decide) (by decide) q
  have e6 := zgf_q b C 6 q (by decide) (by decide) q
  have e7 := zgf_q b C 7 q (by decide) (by decide) q
  have e9 := zgf_9 b C q q (Nat.le_refl _)
  have hs : zgf b C (q + 1) = if zOpen (zgf b C q) q = true ∧ zin (zgf b C q) q b = true then zend (zgf b C q) q (if zgf b C q 6 q = b then 1 else 2) else zgf b C q := rfl
  have hfin : q = C 0 1 → zgive C b = zgf b C q := fun e => by rw [e]; rfl
  generalize zgf b C q = S at a1 w1 e01 e00 e6 e7 e9 hs hfin
  refine qV.go 30 [4, 41, 80] ok_31 ?_
  simp only [qW_nop, qW_iconst, qW_iloadn, qW_aloadn, qW_istoren, qW_iinc, qW_pop, qW_iceq, qW_ifne, qW_icne, qW_icge, qW_goto, qW_getf, qW_iald, qW_cv4_0, qW_iret0, Nat.reduceAdd, Nat.reduceMul, Nat.reduceBEq, Nat.reduceEqDiff, Nat.reduceLT, Nat.reduceLeDiff, Nat.zero_le, nI_add, nI_mul, nI_cl, qin_eq, qofI, qlg_0, qlg_s, qls_i0, qls_r0, qls_l0, qls_1, qls_2, qkl_i, qkl_r, qkl_l, qkl_n, qIsI_i, qIsL_l, qIsR_r, qint_i, qil_i, qil_r, qil_l, qf4_0, qf4_1, qf4_2, qf4_3, qf2_0, qf2_1, qcs_n, qcs_i, qcs_r, qcs_l, qst_n, qst_c, qJ_0, qJ_st, qJ_go, qfl_I, qfl_Z, qfl_L, qfl_R, qrI_i, qrL_l, qrV_v, qRcv_0, qRcv_s, eq_self, true_and, and_true, true_or, or_true, false_and, and_false, false_or, or_false, ite_true, if_true, if_false, Bool.true_or, Bool.false_or, Bool.or_false, beq_self_eq_true, Bool.false_eq_true, bX1_giveIn_0, bX1_giveIn_4, bX1_giveIn_41, bX1_giveIn_57, bX1_giveIn_58, bX1_giveIn_72, bX1_giveIn_73, bX1_giveIn_80, bX1_giveIn_86, kX1_giveIn_0, kX1_giveIn_4, kX1_giveIn_41, kX1_giveIn_57, kX1_giveIn_58, kX1_giveIn_72, kX1_giveIn_73, kX1_giveIn_80, kX1_giveIn_86, zCb_k hr, zCb_6 hr, zCb_7 hr, zCb_8 hr, zCb_9 hr, zCb_10 hr, zCb_11 hr, zCb_12 hr, zCb_13 hr, zCb_14 hr, zCb_15 hr, zCb_16 hr, zCb_a1 hr, zCb_a2 hr, zCb_a3 hr, zCb_a4 hr, zCb_a5 hr, zCb_a6 hr, zCb_a7 hr, zCb_a8 hr, zCb_a9 hr, zCb_a10 hr, zCb_a11 hr]
  rw [a1.1.q, e01]
  simp (disch := omega) only [nI_leI, nI_ltI, nI_eq, nI_cl, qin_eq, nI_add, nI_mul, qb_z, qb_t, qb_f, nI_ne0', Nat.reduceAdd, Bool.false_eq_true, if_false, if_true, true_and, and_true, Nat.reduceEqDiff, not_true_eq_false, not_false_eq_true, false_implies, true_implies, ite_true, ite_false]
  refine ⟨fun g => ?_, fun g => ?_⟩
  · have e : q = C 0 1 := by omega
    rw [hfin e, e]
    exact ⟨rfl, a1, f1⟩
  · have hq1 : q < C 0 1 := by omega
    have hq2 : q < S 0 1 := by omega
    have g9 := wQ q hq1
    have ec : zcount (fun q => zOpen C q && zin C q b) (q + 1) = zcount (fun q => zOpen C q && zin C q b) q + (if (zOpen C q && zin C q b) = true then 1 else 0) := rfl
    have oS : zOpen S q = zOpen C q := by unfold zOpen; rw [e9]
    have iS : zin S q b = zin C q b := by unfold zin; rw [e6, e7]
    rw [hs, ec, oS, iS] at ih
    have no : (zOpen C q && zin C q b) = false → qV 31 3 (.inl fun v σ' => v = nI (zcount (fun q => zOpen C q && zin C q b) (C 0 1)) ∧ zX σ' r (zgive C b) ∧ zF (zXf r) σ σ') 80 [some (qr r), some (qi (nI b)), some (qi (nI (zcount (fun q => zOpen C q && zin C q b) q))), some (qi (nI q))] [] σ1 := by
      intro hz
      rw [if_neg (show ¬ (zOpen C q = true ∧ zin C q b = true) by rw [Bool.and_eq_false_iff] at hz; rcases hz with hz | hz <;> simp [hz]), if_neg (by rw [hz]; decide)] at ih
      refine qV.go 30 [4] ok_31 ?_
      simp only [qW_nop, qW_iconst, qW_iloadn, qW_aloadn, qW_istoren, qW_iinc, qW_pop, qW_iceq, qW_ifne, qW_icne, qW_icge, qW_goto, qW_getf, qW_iald, qW_cv4_0, qW_iret0, Nat.reduceAdd, Nat.reduceMul, Nat.reduceBEq, Nat.reduceEqDiff, Nat.reduceLT, Nat.reduceLeDiff, Nat.zero_le, nI_add, nI_mul, nI_cl, qin_eq, qofI, qlg_0, qlg_s, qls_i0, qls_r0, qls_l0, qls_1, qls_2, qkl_i, qkl_r, qkl_l, qkl_n, qIsI_i, qIsL_l, qIsR_r, qint_i, qil_i, qil_r, qil_l, qf4_0, qf4_1, qf4_2, qf4_3, qf2_0, qf2_1, qcs_n, qcs_i, qcs_r, qcs_l, qst_n, qst_c, qJ_0, qJ_st, qJ_go, qfl_I, qfl_Z, qfl_L, qfl_R, qrI_i, qrL_l, qrV_v, qRcv_0, qRcv_s, eq_self, true_and, and_true, true_or, or_true, false_and, and_false, false_or, or_false, ite_true, if_true, if_false, Bool.true_or, Bool.false_or, Bool.or_false, beq_self_eq_true, Bool.false_eq_true, bX1_giveIn_0, bX1_giveIn_4, bX1_giveIn_41, bX1_giveIn_57, bX1_giveIn_58, bX1_giveIn_72, bX1_giveIn_73, bX1_giveIn_80, bX1_giveIn_86, kX1_giveIn_0, kX1_giveIn_4, kX1_giveIn_41, kX1_giveIn_57, kX1_giveIn_58, kX1_giveIn_72, kX1_giveIn_73, kX1_giveIn_80, kX1_giveIn_86, zCb_k hr, zCb_6 hr, zCb_7 hr, zCb_8 hr, zCb_9 hr, zCb_10 hr, zCb_11 hr, zCb_12 hr, zCb_13 hr, zCb_14 hr, zCb_15 hr, zCb_16 hr, zCb_a1 hr, zCb_a2 hr, zCb_a3 hr, zCb_a4 hr, zCb_a5 hr, zCb_a6 hr, zCb_a7 hr, zCb_a8 hr, zCb_a9 hr, zCb_a10 hr, zCb_a11 hr]
      exact ih hq1 σ1 a1 f1
    have yes : (zOpen C q && zin C q b) = true → qV 31 3 (.inl fun v σ' => v = nI (zcount (fun q => zOpen C q && zin C q b) (C 0 1)) ∧ zX σ' r (zgive C b) ∧ zF (zXf r) σ σ') 41 [some (qr r), some (qi (nI b)), some (qi (nI (zcount (fun q => zOpen C q && zin C q b) q))), some (qi (nI q))] [] σ1 := by
      intro hz
      have hz2 := hz
      rw [Bool.and_eq_true] at hz2
      rw [if_pos hz2, if_pos hz] at ih
      have h9 : S 9 q = 0 := by rw [e9]; exact of_decide_eq_true hz2.1
      have leaf : ∀ o t : Bool, o = decide (S 6 q = b) → t = decide (S 7 q = b) → qBI 3 29 [qr r, qi (nI q), qi (qb o), qi (qb t)] σ1 (fun _ σ2 => qV 31 3 (.inl fun v σ' => v = nI (zcount (fun q => zOpen C q && zin C q b) (C 0 1)) ∧ zX σ' r (zgive C b) ∧ zF (zXf r) σ σ') 80 [some (qr r), some (qi (nI b)), some (qi (nI (zcount (fun q => zOpen C q && zin C q b) q + 1))), some (qi (nI q))] [] σ2) := by
        intro o t ho ht
        refine qBI.of (x_endBy hr a1 w1 hq2 h9 o t) (by decide) (fun v σ2 g2 => ?_)
        obtain ⟨-, b1, b2⟩ := g2
        have hz3 := hz2.2
        unfold zin at hz3
        rw [Bool.or_eq_true, decide_eq_true_eq, decide_eq_true_eq] at hz3
        have hz4 : (if o then 1 else 0) + (if t then 2 else 0) = if S 6 q = b then 1 else 2 := by
          rw [ho, ht]
          by_cases k6 : S 6 q = b
          · rw [decide_eq_true k6, decide_eq_false (show ¬ S 7 q = b by omega), if_pos k6]; rfl
          · rw [decide_eq_false k6, decide_eq_true (show S 7 q = b by omega), if_neg k6]; rfl
        rw [hz4] at b1
        refine qV.go 30 [4] ok_31 ?_
        simp only [qW_nop, qW_iconst, qW_iloadn, qW_aloadn, qW_istoren, qW_iinc, qW_pop, qW_iceq, qW_ifne, qW_icne, qW_icge, qW_goto, qW_getf, qW_iald, qW_cv4_0, qW_iret0, Nat.reduceAdd, Nat.reduceMul, Nat.reduceBEq, Nat.reduceEqDiff, Nat.reduceLT, Nat.reduceLeDiff, Nat.zero_le, nI_add, nI_mul, nI_cl, qin_eq, qofI, qlg_0, qlg_s, qls_i0, qls_r0, qls_l0, qls_1, qls_2, qkl_i, qkl_r, qkl_l, qkl_n, qIsI_i, qIsL_l, qIsR_r, qint_i, qil_i, qil_r, qil_l, qf4_0, qf4_1, qf4_2, qf4_3, qf2_0, qf2_1, qcs_n, qcs_i, qcs_r, qcs_l, qst_n, qst_c, qJ_0, qJ_st, qJ_go, qfl_I, qfl_Z, qfl_L, qfl_R, qrI_i, qrL_l, qrV_v, qRcv_0, qRcv_s, eq_self, true_and, and_true, true_or, or_true, false_and, and_false, false_or, or_false, ite_true, if_true, if_false, Bool.true_or, Bool.false_or, Bool.or_false, beq_self_eq_true, Bool.false_eq_true, bX1_giveIn_0, bX1_giveIn_4, bX1_giveIn_41, bX1_giveIn_57, bX1_giveIn_58, bX1_giveIn_72, bX1_giveIn_73, bX1_giveIn_80, bX1_giveIn_86, kX1_giveIn_0, kX1_giveIn_4, kX1_giveIn_41, kX1_giveIn_57, kX1_giveIn_58, kX1_giveIn_72, kX1_giveIn_73, kX1_giveIn_80, kX1_giveIn_86, zCb_k hr, zCb_6 hr, zCb_7 hr, zCb_8 hr, zCb_9 hr, zCb_10 hr, zCb_11 hr, zCb_12 hr, zCb_13 hr, zCb_14 hr, zCb_15 hr, zCb_16 hr, zCb_a1 hr, zCb_a2 hr, zCb_a3 hr, zCb_a4 hr, zCb_a5 hr, zCb_a6 hr, zCb_a7 hr, zCb_a8 hr, zCb_a9 hr, zCb_a10 hr, zCb_a11 hr]
        exact ih hq1 σ2 b1 (f1.tr b2)
      have d1 : S 6 q < 2147483648 := by omega
      have d2 : S 7 q < 2147483648 := by omega
      refine qV.go 30 [80] ok_31 ?_
      simp only [qW_nop, qW_iconst, qW_iloadn, qW_aloadn, qW_istoren, qW_iinc, qW_pop, qW_iceq, qW_ifne, qW_icne, qW_icge, qW_goto, qW_getf, qW_iald, qW_cv4_0, qW_iret0, Nat.reduceAdd, Nat.reduceMul, Nat.reduceBEq, Nat.reduceEqDiff, Nat.reduceLT, Nat.reduceLeDiff, Nat.zero_le, nI_add, nI_mul, nI_cl, qin_eq, qofI, qlg_0, qlg_s, qls_i0, qls_r0, qls_l0, qls_1, qls_2, qkl_i, qkl_r, qkl_l, qkl_n, qIsI_i, qIsL_l, qIsR_r, qint_i, qil_i, qil_r, qil_l, qf4_0, qf4_1, qf4_2, qf4_3, qf2_0, qf2_1, qcs_n, qcs_i, qcs_r, qcs_l, qst_n, qst_c, qJ_0, qJ_st, qJ_go, qfl_I, qfl_Z, qfl_L, qfl_R, qrI_i, qrL_l, qrV_v, qRcv_0, qRcv_s, eq_self, true_and, and_true, true_or, or_true, false_and, and_false, false_or, or_false, ite_true, if_true, if_false, Bool.true_or, Bool.false_or, Bool.or_false, beq_self_eq_true, Bool.false_eq_true, bX1_giveIn_0, bX1_giveIn_4, bX1_giveIn_41, bX1_giveIn_57, bX1_giveIn_58, bX1_giveIn_72, bX1_giveIn_73, bX1_giveIn_80, bX1_giveIn_86, kX1_giveIn_0, kX1_giveIn_4, kX1_giveIn_41, kX1_giveIn_57, kX1_giveIn_58, kX1_giveIn_72, kX1_giveIn_73, kX1_giveIn_80, kX1_giveIn_86, zCb_k hr, zCb_6 hr, zCb_7 hr, zCb_8 hr, zCb_9 hr, zCb_10 hr, zCb_11 hr, zCb_12 hr, zCb_13 hr, zCb_14 hr, zCb_15 hr, zCb_16 hr, zCb_a1 hr, zCb_a2 hr, zCb_a3 hr, zCb_a4 hr, zCb_a5 hr, zCb_a6 hr, zCb_a7 hr, zCb_a8 hr, zCb_a9 hr, zCb_a10 hr, zCb_a11 hr]
      simp (disch := omega) only [nI_leI, nI_ltI, nI_eq, nI_cl, qin_eq, nI_add, nI_mul, qb_z, qb_t, qb_f, nI_ne0', Nat.reduceAdd, Bool.false_eq_true, if_false, if_true, true_and, and_true, Nat.reduceEqDiff, not_true_eq_false, not_false_eq_true, false_implies, true_implies, ite_true, ite_false]
      rw [a1.1.fi hq2, a1.1.se hq2]
      simp (disch := omega) only [nI_leI, nI_ltI, nI_eq, nI_cl, qin_eq, nI_add, nI_mul, qb_z, qb_t, qb_f, nI_ne0', Nat.reduceAdd, Bool.false_eq_true, if_false, if_true, true_and, and_true, Nat.reduceEqDiff, not_true_eq_false, not_false_eq_true, false_implies, true_implies, ite_true, ite_false]
      refine ⟨fun k6 => ?_, fun k6 => ?_⟩
      · refine ⟨fun k7 => ?_, fun k7 => ?_⟩
        · exact leaf false false (decide_eq_false k6).symm (decide_eq_false k7).symm
        · exact leaf false true (decide_eq_false k6).symm (decide_eq_true k7).symm
      · refine ⟨fun k7 => ?_, fun k7 => ?_⟩
        · exact leaf true false (decide_eq_true k6).symm (decide_eq_false k7).symm
        · exact leaf true true (decide_eq_true k6).symm (decide_eq_true k7).symm
    rw [a1.1.en hq2, a1.1.fi hq2, a1.1.se hq2]
    unfold zOpen zin at no yes
    rw [e9, e6, e7]
    simp (disch := omega) only [nI_leI, nI_ltI, nI_eq, nI_cl, qin_eq, nI_add, nI_mul, qb_z, qb_t, qb_f, nI_ne0', Nat.reduceAdd, Bool.false_eq_true, if_false, if_true, true_and, and_true, Nat.reduceEqDiff, not_true_eq_false, not_false_eq_true, false_implies, true_implies, ite_true, ite_false]
    refine ⟨fun h1 => no (by rw [decide_eq_false h1]; rfl), fun h1 => ⟨fun h2 => yes (by rw [decide_eq_true h1, decide_eq_true h2]; rfl), fun h2 => ⟨fun h3 => no (by rw [decide_eq_false h2, decide_eq_false h3]; simp), fun h3 => yes (by rw [decide_eq_true h1, decide_eq_true (p := C 7 q = b) h3, Bool.or_true]; rfl)⟩⟩⟩
theorem zX.nq {σ : qSg} {r : Nat} {C : zC} (h : zX σ r C) {v : Nat} (hh : ∀ q, q < v → ∀ f, f < 4 → σ.1 (r + (8 + f)) q = nI (C (6 + f) q)) : zX (qwi σ r 5 (nI v)) r (zu C 0 1 v) := by
  obtain ⟨⟨h1, h2, h3⟩, h4⟩ := h
  have e : ∀ f i, ¬ (f = 0 ∧ i = 1) → zu C 0 1 v f i = C f i := fun f i hn => zu_ne hn
  refine ⟨⟨?_, fun b' hb g hg => ?_, fun q' hq g hg => ?_⟩, fun b' hb => ?_⟩
  · rw [e 0 2 (by decide), e 0 3 (by decide), e 0 4 (by decide), e 0 0 (by decide), e 0 5 (by decide), zu_eq]
    refine ⟨?_, ?_, ?_, ?_, ?_, ?_⟩
    · rw [qwi_1, if_neg (by omega)]; exact h1.1
    · rw [qwi_1, if_neg (by omega)]; exact h1.2.1
    · rw [qwi_1, if_neg (by omega)]; exact h1.2.2.1
    · rw [qwi_1, if_neg (by omega)]; exact h1.2.2.2.1
    · rw [qwi_1, if_neg (by omega)]; exact h1.2.2.2.2.1
    · rw [qwi_1, if_pos ⟨rfl, rfl⟩]
  · rw [e 0 0 (by decide)] at hb
    rw [qwi_1, if_neg (by omega), e _ _ (by omega)]
    exact h2 b' hb g hg
  · rw [zu_eq] at hq
    rw [qwi_1, if_neg (by omega), e _ _ (by omega)]
    exact hh q' hq g hg
  · rw [e 0 0 (by decide)] at hb
    rw [qwi_1, if_neg (by omega), znear_cg (e _ _ (by decide)) (e _ _ (by decide)) (fun i => e _ _ (by omega)) (fun i => e _ _ (by omega))]
    exact h4 b' hb
theorem zX0.nb {σ : qSg} {r : Nat} {C : zC} (h : zX0 σ r C) {v : Nat} (hh : ∀ b, b < v → ∀ f, f < 5 → σ.1 (r + (2 + f)) b = nI (C (1 + f) b)) : zX0 (qwi σ r 4 (nI v)) r (zu C 0 0 v) := by
  obtain ⟨h1, h2, h3⟩ := h
  have e : ∀ f i, ¬ (f = 0 ∧ i = 0) → zu C 0 0 v f i = C f i := fun f i hn => zu_ne hn
  refine ⟨?_, fun b' hb g hg => ?_, fun q' hq g hg => ?_⟩
  · rw [e 0 2 (by decide), e 0 3 (by decide), e 0 4 (by decide), e 0 1 (by decide), e 0 5 (by decide), zu_eq]
    refine ⟨?_, ?_, ?_, ?_, ?_, ?_⟩
    · rw [qwi_1, if_neg (by omega)]; exact h1.1
    · rw [qwi_1, if_neg (by omega)]; exact h1.2.1
    · rw [qwi_1, if_neg (by omega)]; exact h1.2.2.1
    · rw [qwi_1, if_neg (by omega)]; exact h1.2.2.2.1
    · rw [qwi_1, if_pos ⟨rfl, rfl⟩]
    · rw [qwi_1, if_neg (by omega)]; exact h1.2.2.2.2.2
  · rw [zu_eq] at hb
    rw [qwi_1, if_neg (by omega), e _ _ (by omega)]
    exact hh b' hb g hg
  · rw [e 0 1 (by decide)] at hq
    rw [qwi_1, if_neg (by omega), e _ _ (by omega)]
    exact h3 q' hq g hg
