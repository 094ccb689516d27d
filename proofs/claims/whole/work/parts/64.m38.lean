/-! the reference: weeks -/
set_option maxRecDepth 20000 in
theorem weeks_loop {σ : qSg} {B : Nat → Nat} {N : Nat → List Nat} {C : zC} {n : Nat} (hB : zBW B n) (hW : zW C) (hN : zNW (C 0 0) N) (Q : qQ) (x : Int32)
    (K : ∀ σ' e (l2 : Int32) l3, zrdW B N (C 0 0) (C 0 2 * C 0 3) = .inl e → zFl σ' e → zF zPy σ σ' → qV 258 12 Q 57 [some (qr 139), some (qi x), some (qi l2), l3] [] σ')
    (H : ∀ σ' p d (l2 : Int32) l3, zrdW B N (C 0 0) (C 0 2 * C 0 3) = .inl (zno B p 2) → zPd σ' B n p → σ'.1 139 22 = nI d → 0 < d → d ≤ 3 → zF zPy σ σ' → qV 258 12 Q 57 [some (qr 139), some (qi x), some (qi l2), l3] [] σ')
    (G : ∀ σ' s (l2 : Int32) l3, zrdW B N (C 0 0) (C 0 2 * C 0 3) = .inr s → σ'.1 139 18 = nI 0 → σ'.1 139 17 = iI (-1) → zDw σ' s → s.2.2.2.1 = 0 → zQW (C 0 0) (C 0 2 * C 0 3) s → zF zPy σ σ' → qV 258 12 Q 57 [some (qr 139), some (qi x), some (qi l2), l3] [] σ') :
    ∀ f (s : zQ) (p : Nat) (σ1 : qSg) (l3 : Option qPV), p ≤ n → n - p < f → zQW (C 0 0) (C 0 2 * C 0 3) s → zPd σ1 B n p → zDw σ1 s → zM σ1 0 C → zMN σ1 0 (C 0 0) N → zF zPy σ σ1 → zpWeeks B N (C 0 0) (C 0 2 * C 0 3) f s p = zrdW B N (C 0 0) (C 0 2 * C 0 3) →
    qV 258 12 Q 38 [some (qr 139), some (qi x), some (qi (nI 1)), l3] [] σ1
  | 0, _, _, _, _, _, h, _, _, _, _, _, _, _ => absurd h (Nat.not_lt_zero _)
  | f + 1, s, p, σ1, l3, hp, hf, hs, h, hd, hC, hb, fr, hR => by
    have hk5 := tkK_lt B p
    have hc := zSW_cells hW
    have s3 := hs.2.2.1
    refine qV.go 30 [38, 57] ok_258 ?_
    simp only [qW_nop, qW_iconst, qW_bipush, qW_sipush, qW_iloadn, qW_aloadn, qW_istoren, qW_iinc, qW_iadd, qW_pop, qW_ifeq, qW_ifne, qW_icge, qW_ifle, qW_goto, qW_getf, qW_iald, qW_iast, qW_cv1_0, qW_cv2_0, qW_cv3_0, qW_iret0, qW_putf0, Nat.reduceAdd, Nat.reduceMul, Nat.reduceBEq, Nat.reduceEqDiff, Nat.reduceLT, Nat.reduceLeDiff, Nat.zero_le, nI_add, nI_mul, nI_cl, qin_eq, qofI, qlg_0, qlg_s, qls_i0, qls_r0, qls_l0, qls_1, qls_2, qkl_i, qkl_r, qkl_l, qkl_n, qIsI_i, qIsL_l, qIsR_r, qint_i, qil_i, qil_r, qil_l, qf4_0, qf4_1, qf4_2, qf4_3, qf2_0, qf2_1, qcs_n, qcs_i, qcs_r, qcs_l, qst_n, qst_c, qJ_0, qJ_st, qJ_go, qfl_I, qfl_Z, qfl_L, qfl_R, qrI_i, qrL_l, qrV_v, qRcv_0, qRcv_s, eq_self, true_and, and_true, true_or, or_true, false_and, and_false, false_or, or_false, ite_true, if_true, if_false, Bool.true_or, Bool.false_or, Bool.or_false, beq_self_eq_true, Bool.false_eq_true, bX12_weeks_0, bX12_weeks_17, bX12_weeks_38, bX12_weeks_57, bX12_weeks_77, bX12_weeks_102, bX12_weeks_131, kX12_weeks_0, kX12_weeks_17, kX12_weeks_38, kX12_weeks_57, kX12_weeks_77, kX12_weeks_102, kX12_weeks_131, qK_139, qR_139_0, qK_140, qR_139_1, qK_141, qR_139_5, qK_142, qR_139_6, qK_143, qR_139_7, qK_144, qR_139_8, qK_145, qR_139_9, qK_146, qR_139_21, qK_147, qR_139_25, qK_148, qR_139_30, qK_149, qR_139_31, qK_150, qR_139_33, qK_151, qR_139_34, qK_152, qR_139_35, qK_153, qR_139_36, qK_154, qR_139_39, qK_155, qR_139_40, qK_156, qR_139_41, qK_157]
    rw [h.1.2.1]
    simp (disch := omega) only [nI_leI, nI_ltI, nI_eq, nI_cl, qin_eq, nI_add, nI_mul, qb_z, qb_t, qb_f, nI_ne0', Nat.reduceAdd, Bool.false_eq_true, if_false, if_true, true_and, and_true, Nat.reduceEqDiff, not_true_eq_false, not_false_eq_true, false_implies, true_implies, ite_true, ite_false]
    refine ⟨fun g => ?_, fun g => ?_⟩
    · rw [zpWeeks, if_pos g] at hR
      by_cases e0 : s.2.2.2.1 = 0
      · rw [if_pos e0] at hR
        exact G σ1 s _ _ hR.symm h.2.1 h.2.2 hd e0 hs fr
      · rw [if_neg e0] at hR
        exact H σ1 p _ _ _ hR.symm h hd.2.1 (by omega) s3 fr
    · rw [zpWeeks, if_neg g] at hR
      refine qBI.of (m_weekStep hB hp hs h hd hC hW hb hN) (by decide) (fun r σ2 g2 => ?_)
      obtain ⟨g2, f2⟩ := g2
      rcases zPo_c g2 with ⟨e, he, rfl, hfl⟩ | ⟨v, hv, rfl, v1, v2⟩
      · rw [he] at hR
        refine qV.go 30 [38, 57] ok_258 ?_
        simp only [qW_nop, qW_iconst, qW_bipush, qW_sipush, qW_iloadn, qW_aloadn, qW_istoren, qW_iinc, qW_iadd, qW_pop, qW_ifeq, qW_ifne, qW_icge, qW_ifle, qW_goto, qW_getf, qW_iald, qW_iast, qW_cv1_0, qW_cv2_0, qW_cv3_0, qW_iret0, qW_putf0, Nat.reduceAdd, Nat.reduceMul, Nat.reduceBEq, Nat.reduceEqDiff, Nat.reduceLT, Nat.reduceLeDiff, Nat.zero_le, nI_add, nI_mul, nI_cl, qin_eq, qofI, qlg_0, qlg_s, qls_i0, qls_r0, qls_l0, qls_1, qls_2, qkl_i, qkl_r, qkl_l, qkl_n, qIsI_i, qIsL_l, qIsR_r, qint_i, qil_i, qil_r, qil_l, qf4_0, qf4_1, qf4_2, qf4_3, qf2_0, qf2_1, qcs_n, qcs_i, qcs_r, qcs_l, qst_n, qst_c, qJ_0, qJ_st, qJ_go, qfl_I, qfl_Z, qfl_L, qfl_R, qrI_i, qrL_l, qrV_v, qRcv_0, qRcv_s, eq_self, true_and, and_true, true_or, or_true, false_and, and_false, false_or, or_false, ite_true, if_true, if_false, Bool.true_or, Bool.false_or, Bool.or_false, beq_self_eq_true, Bool.false_eq_true, bX12_weeks_0, bX12_weeks_17, bX12_weeks_38, bX12_weeks_57, bX12_weeks_77, bX12_weeks_102, bX12_weeks_131, kX12_weeks_0, kX12_weeks_17, kX12_weeks_38, kX12_weeks_57, kX12_weeks_77, kX12_weeks_102, kX12_weeks_131, qK_139, qR_139_0, qK_140, qR_139_1, qK_141, qR_139_5, qK_142, qR_139_6, qK_143, qR_139_7, qK_144, qR_139_8, qK_145, qR_139_9, qK_146, qR_139_21, qK_147, qR_139_25, qK_148, qR_139_30, qK_149, qR_139_31, qK_150, qR_139_33, qK_151, qR_139_34, qK_152, qR_139_35, qK_153, qR_139_36, qK_154, qR_139_39, qK_155, qR_139_40, qK_156, qR_139_41, qK_157]
        simp (disch := omega) only [nI_leI, nI_ltI, nI_eq, nI_cl, qin_eq, nI_add, nI_mul, qb_z, qb_t, qb_f, nI_ne0', Nat.reduceAdd, Bool.false_eq_true, if_false, if_true, true_and, and_true, Nat.reduceEqDiff, not_true_eq_false, not_false_eq_true, false_implies, true_implies, ite_true, ite_false]
        exact K σ2 e _ _ hR.symm hfl (fr.tr f2)
      · rw [hv] at hR
        have s1 := zpStep_inr hB hp hc.1 hs hv
        exact weeks_loop hB hW hN Q x K H G f v.1 v.2 σ2 l3 s1.2.1 (by omega) s1.2.2 v1 v2 (hC.keep hW (fun j hj => f2.1 _ _ (by unfold zPy zPw; omega))) (fun b hb1 => by rw [f2.2]; exact hb b hb1) (fr.tr f2) hR
theorem zRf_y {σ σ' : qSg} (f : zF zPy σ σ') : zRef σ σ' := f.g fun a j h => by unfold zPy zPw at h; omega
set_option maxHeartbeats 1000000 in
set_option maxRecDepth 20000 in
theorem M_weeks {σ : qSg} {A : zA} (hA : zMA σ A) (hW : zAW A) (x : Int32) : qCI 12 258 [qr 139, qi x] σ (zCall σ (yWeeks A x)) := by
  obtain ⟨w1, w2, w3, w4, w5, w6⟩ := id hW
  obtain ⟨h1, h2, h3, h4, h5, h6, h7, h8, h9, h10⟩ := id hA
  refine qCI.of [some (qr 139), some (qi x), none, none] ok_258 (Nat.le_of_ble_eq_true rfl) rfl ?_
  refine qV.go 30 [38, 57] ok_258 ?_
  simp only [qW_nop, qW_iconst, qW_bipush, qW_sipush, qW_iloadn, qW_aloadn, qW_istoren, qW_iinc, qW_iadd, qW_pop, qW_ifeq, qW_ifne, qW_icge, qW_ifle, qW_goto, qW_getf, qW_iald, qW_iast, qW_cv1_0, qW_cv2_0, qW_cv3_0, qW_iret0, qW_putf0, Nat.reduceAdd, Nat.reduceMul, Nat.reduceBEq, Nat.reduceEqDiff, Nat.reduceLT, Nat.reduceLeDiff, Nat.zero_le, nI_add, nI_mul, nI_cl, qin_eq, qofI, qlg_0, qlg_s, qls_i0, qls_r0, qls_l0, qls_1, qls_2, qkl_i, qkl_r, qkl_l, qkl_n, qIsI_i, qIsL_l, qIsR_r, qint_i, qil_i, qil_r, qil_l, qf4_0, qf4_1, qf4_2, qf4_3, qf2_0, qf2_1, qcs_n, qcs_i, qcs_r, qcs_l, qst_n, qst_c, qJ_0, qJ_st, qJ_go, qfl_I, qfl_Z, qfl_L, qfl_R, qrI_i, qrL_l, qrV_v, qRcv_0, qRcv_s, eq_self, true_and, and_true, true_or, or_true, false_and, and_false, false_or, or_false, ite_true, if_true, if_false, Bool.true_or, Bool.false_or, Bool.or_false, beq_self_eq_true, Bool.false_eq_true, bX12_weeks_0, bX12_weeks_17, bX12_weeks_38, bX12_weeks_57, bX12_weeks_77, bX12_weeks_102, bX12_weeks_131, kX12_weeks_0, kX12_weeks_17, kX12_weeks_38, kX12_weeks_57, kX12_weeks_77, kX12_weeks_102, kX12_weeks_131, qK_139, qR_139_0, qK_140, qR_139_1, qK_141, qR_139_5, qK_142, qR_139_6, qK_143, qR_139_7, qK_144, qR_139_8, qK_145, qR_139_9, qK_146, qR_139_21, qK_147, qR_139_25, qK_148, qR_139_30, qK_149, qR_139_31, qK_150, qR_139_33, qK_151, qR_139_34, qK_152, qR_139_35, qK_153, qR_139_36, qK_154, qR_139_39, qK_155, qR_139_40, qK_156, qR_139_41, qK_157]
  refine qBI.of (m_begins w5 h5 x (most := 300) (by decide)) (by decide) (fun r σ1 g => ?_)
  by_cases hb : zbeg (aP A) x 300 = true
  · rw [if_pos hb] at g
    obtain ⟨rfl, p1, ta, f1⟩ := g
    simp (disch := omega) only [nI_leI, nI_ltI, nI_eq, nI_cl, qin_eq, nI_add, nI_mul, qb_z, qb_t, qb_f, nI_ne0', Nat.reduceAdd, Bool.false_eq_true, if_false, if_true, true_and, and_true, Nat.reduceEqDiff, not_true_eq_false, not_false_eq_true, false_implies, true_implies, ite_true, ite_false]
    have eY : yWeeks A x = match zrdW (ztx (aP A).2 x.toInt.toNat) A.1.2.1 (aC A 0 0) (aC A 0 2 * aC A 0 3) with
      | .inl e => (iI (-1), sS (sE (sP (sK A A.1) (0, (aP A).2)) (nI e.1, nI e.2)) 9)
      | .inr s => (nI s.2.2.1, sS (sE (sP (sK A (A.1.1, A.1.2.1, some (s.1, s.2.1))) (0, (aP A).2)) (nI 0, iI (-1))) 0) := by
      unfold yWeeks
      rw [if_neg (by rw [hb]; decide)]
      rfl
    rw [eY]
    have hk : x.toInt.toNat ≤ (aP A).1 ∧ x.toInt.toNat ≤ 300 := by
      simp only [zbeg, zih, Bool.and_eq_true, decide_eq_true_eq] at hb
      omega
    have hB := ztx_W w5 hk.1
    generalize x.toInt.toNat = n at *
    generalize ztx (aP A).2 n = B at *
    have hk2 := hk.2
    have e3 : ∀ a j, zKp a j → ¬ (a = 139 ∧ (j = 10 ∨ j = 17)) → (qwi (qwi (qwi σ1 140 1830 (nI 0)) 139 22 (nI 0)) 139 23 (nI 0)).1 a j = σ.1 a j := fun a j hk hn => by
      unfold zKp at hk
      rw [qwi_1, if_neg (by omega), qwi_1, if_neg (by omega), qwi_1, if_neg (by omega), f1.1 _ _ (by unfold zPbg; omega)]
    have e4 : ∀ a j, (qwi (qwi (qwi σ1 140 1830 (nI 0)) 139 22 (nI 0)) 139 23 (nI 0)).2 a j = σ.2 a j := fun a j => by rw [qwi_2, qwi_2, qwi_2, f1.2]
    have t3 : (qwi (qwi (qwi σ1 140 1830 (nI 0)) 139 22 (nI 0)) 139 23 (nI 0)).1 139 10 = nI 0 := by rw [qwi_1, if_neg (by omega), qwi_1, if_neg (by omega), qwi_1, if_neg (by omega)]; exact ta
    have r3 : zRef σ (qwi (qwi (qwi σ1 140 1830 (nI 0)) 139 22 (nI 0)) 139 23 (nI 0)) := (((zRef.f f1 (fun a j h => by unfold zPbg at h; omega)).tr (zG.wi (show 139 ≤ 140 by decide))).tr (zG.wi (show 139 ≤ 139 by decide))).tr (zG.wi (show 139 ≤ 139 by decide))
    have p3 : zPd (qwi (qwi (qwi σ1 140 1830 (nI 0)) 139 22 (nI 0)) 139 23 (nI 0)) B n 0 := p1.kp (fun j => by rw [qwi_1, if_neg (by omega), qwi_1, if_neg (by omega), qwi_1, if_neg (by omega)]) (fun j hj => by rw [qwi_1, if_neg (by omega), qwi_1, if_neg (by omega), qwi_1, if_neg (by omega)])
    have d3 : zDw (qwi (qwi (qwi σ1 140 1830 (nI 0)) 139 22 (nI 0)) 139 23 (nI 0)) zQ0 := by
      refine ⟨?_, ?_, ?_, fun i hi => absurd hi (Nat.not_lt_zero _), fun k hk => absurd hk (Nat.not_lt_zero _)⟩
      · rw [qwi_1, if_neg (by omega), qwi_1, if_neg (by omega), qwi_1, if_pos ⟨rfl, rfl⟩]; rfl
      · rw [qwi_1, if_neg (by omega), qwi_1, if_pos ⟨rfl, rfl⟩]; rfl
      · rw [qwi_1, if_pos ⟨rfl, rfl⟩]; rfl
    generalize qwi (qwi (qwi σ1 140 1830 (nI 0)) 139 22 (nI 0)) 139 23 (nI 0) = σ3 at e3 e4 t3 r3 p3 d3 ⊢
    have C3 : zM σ3 0 (aC A) := h1.1.kp6 w1.1.1 w1.1.2.1 (fun j hj _ => e3 _ _ (by unfold zKp; omega) (by omega))
    have b3 : zMN σ3 0 (aC A 0 0) A.1.2.1 := fun b hb1 => by rw [e4]; exact h1.2.1 b hb1
    -- behind a fault
    have bad : ∀ (e : Nat × Nat) (σ4 : qSg) (l2 : Int32) (l3 : Option qPV), zrdW B A.1.2.1 (aC A 0 0) (aC A 0 2 * aC A 0 3) = .inl e → zFl σ4 e → zF zPy σ3 σ4 → qV 258 12 (.inl (zCall σ (iI (-1), sS (sE (sP (sK A A.1) (0, (aP A).2)) (nI e.1, nI e.2)) 9))) 77 [some (qr 139), some (qi x), some (qi l2), l3] [] σ4 := by
      intro e σ4 l2 l3 he hfl f4
      have hk := zpWeeks_k _ _ _ e he
      refine qV.go 30 [102] ok_258 ?_
      simp only [qW_nop, qW_iconst, qW_bipush, qW_sipush, qW_iloadn, qW_aloadn, qW_istoren, qW_iinc, qW_iadd, qW_pop, qW_ifeq, qW_ifne, qW_icge, qW_ifle, qW_goto, qW_getf, qW_iald, qW_iast, qW_cv1_0, qW_cv2_0, qW_cv3_0, qW_iret0, qW_putf0, Nat.reduceAdd, Nat.reduceMul, Nat.reduceBEq, Nat.reduceEqDiff, Nat.reduceLT, Nat.reduceLeDiff, Nat.zero_le, nI_add, nI_mul, nI_cl, qin_eq, qofI, qlg_0, qlg_s, qls_i0, qls_r0, qls_l0, qls_1, qls_2, qkl_i, qkl_r, qkl_l, qkl_n, qIsI_i, qIsL_l, qIsR_r, qint_i, qil_i, qil_r, qil_l, qf4_0, qf4_1, qf4_2, qf4_3, qf2_0, qf2_1, qcs_n, qcs_i, qcs_r, qcs_l, qst_n, qst_c, qJ_0, qJ_st, qJ_go, qfl_I, qfl_Z, qfl_L, qfl_R, qrI_i, qrL_l, qrV_v, qRcv_0, qRcv_s, eq_self, true_and, and_true, true_or, or_true, false_and, and_false, false_or, or_false, ite_true, if_true, if_false, Bool.true_or, Bool.false_or, Bool.or_false, beq_self_eq_true, Bool.false_eq_true, bX12_weeks_0, bX12_weeks_17, bX12_weeks_38, bX12_weeks_57, bX12_weeks_77, bX12_weeks_102, bX12_weeks_131, kX12_weeks_0, kX12_weeks_17, kX12_weeks_38, kX12_weeks_57, kX12_weeks_77, kX12_weeks_102, kX12_weeks_131, qK_139, qR_139_0, qK_140, qR_139_1, qK_141, qR_139_5, qK_142, qR_139_6, qK_143, qR_139_7, qK_144, qR_139_8, qK_145, qR_139_9, qK_146, qR_139_21, qK_147, qR_139_25, qK_148, qR_139_30, qK_149, qR_139_31, qK_150, qR_139_33, qK_151, qR_139_34, qK_152, qR_139_35, qK_153, qR_139_36, qK_154, qR_139_39, qK_155, qR_139_40, qK_156, qR_139_41, qK_157]
      rw [hfl.1]
      simp (disch := omega) only [nI_leI, nI_ltI, nI_eq, nI_cl, qin_eq, nI_add, nI_mul, qb_z, qb_t, qb_f, nI_ne0', Nat.reduceAdd, Bool.false_eq_true, if_false, if_true, true_and, and_true, Nat.reduceEqDiff, not_true_eq_false, not_false_eq_true, false_implies, true_implies, ite_true, ite_false]
      refine ⟨fun _ => ?_, fun h0 => by omega⟩
      refine qBI.of (m_taken σ4 _ hfl.1 hk.2) (by decide) (fun r σ5 g5 => ?_)
      obtain ⟨rfl, rfl⟩ := g5
      rw [if_neg (by omega), if_neg (by omega)]
      have r5 : zRef σ (qwi (qwi σ4 139 16 (nI e.1)) 139 2 (nI 9)) := ((r3.tr (zRf_y f4)).tr (zG.wi (show 139 ≤ 139 by decide))).tr (zG.wi (show 139 ≤ 139 by decide))
      have e5 : ∀ a j, zKp a j → ¬ (a = 139 ∧ (j = 10 ∨ j = 16 ∨ j = 17 ∨ j = 2)) → (qwi (qwi σ4 139 16 (nI e.1)) 139 2 (nI 9)).1 a j = σ.1 a j := fun a j hk hn => by
        rw [qwi_1, if_neg (by omega), qwi_1, if_neg (by omega), f4.1 _ _ (by unfold zKp at hk; unfold zPy zPw; omega), e3 _ _ hk (by omega)]
      have e6 : ∀ a j, zKq a j → (qwi (qwi σ4 139 16 (nI e.1)) 139 2 (nI 9)).2 a j = σ.2 a j := fun a j hk => by
        rw [qwi_2, qwi_2, f4.2, e4]
      refine ⟨rfl, hA.rd hW (fun a j hk _ hn => e5 a j hk hn) (fun a j hk _ => e6 a j hk) (h1.kp w1 (fun j hj => e5 _ _ (by unfold zKp; omega) (by omega)) (fun j hj => e6 _ _ (by unfold zKq; omega))) ?_ ?_ ?_ ?_, r5⟩
      · rw [qwi_1, if_neg (by decide), qwi_1, if_neg (by decide), f4.1 _ _ (by unfold zPy zPw; omega)]; exact t3
      · rw [qwi_1, if_neg (by decide), qwi_1, if_pos ⟨rfl, rfl⟩]
      · rw [qwi_1, if_neg (by decide), qwi_1, if_neg (by decide)]; exact hfl.2
      · rw [qwi_1, if_pos ⟨rfl, rfl⟩]
    refine weeks_loop (σ := σ3) hB w1.1 w1.2.2.1 _ x (fun σ4 e l2 l3 he hfl f4 => ?_) (fun σ4 p d l2 l3 he hpd hdp hd0 hd3 f4 => ?_) (fun σ4 s l2 l3 hs hf hfp hdr hd0 hsq f4 => ?_) 1000 zQ0 0 σ3 none (Nat.zero_le _) (by have := hB.1; omega) (zQW_0 _ _) p3 d3 C3 b3 zF.rf rfl
    · have hk := zpWeeks_k _ _ _ e he
      have b := bad e σ4 l2 l3 he hfl f4
      simp only [he]
      refine qV.go 30 [77] ok_258 ?_
      simp only [qW_nop, qW_iconst, qW_bipush, qW_sipush, qW_iloadn, qW_aloadn, qW_istoren, qW_iinc, qW_iadd, qW_pop, qW_ifeq, qW_ifne, qW_icge, qW_ifle, qW_goto, qW_getf, qW_iald, qW_iast, qW_cv1_0, qW_cv2_0, qW_cv3_0, qW_iret0, qW_putf0, Nat.reduceAdd, Nat.reduceMul, Nat.reduceBEq, Nat.reduceEqDiff, Nat.reduceLT, Nat.reduceLeDiff, Nat.zero_le, nI_add, nI_mul, nI_cl, qin_eq, qofI, qlg_0, qlg_s, qls_i0, qls_r0, qls_l0, qls_1, qls_2, qkl_i, qkl_r, qkl_l, qkl_n, qIsI_i, qIsL_l, qIsR_r, qint_i, qil_i, qil_r, qil_l, qf4_0, qf4_1, qf4_2, qf4_3, qf2_0, qf2_1, qcs_n, qcs_i, qcs_r, qcs_l, qst_n, qst_c, qJ_0, qJ_st, qJ_go, qfl_I, qfl_Z, qfl_L, qfl_R, qrI_i, qrL_l, qrV_v, qRcv_0, qRcv_s, eq_self, true_and, and_true, true_or, or_true, false_and, and_false, false_or, or_false, ite_true, if_true, if_false, Bool.true_or, Bool.false_or, Bool.or_false, beq_self_eq_true, Bool.false_eq_true, bX12_weeks_0, bX12_weeks_17, bX12_weeks_38, bX12_weeks_57, bX12_weeks_77, bX12_weeks_102, bX12_weeks_131, kX12_weeks_0, kX12_weeks_17, kX12_weeks_38, kX12_weeks_57, kX12_weeks_77, kX12_weeks_102, kX12_weeks_131, qK_139, qR_139_0, qK_140, qR_139_1, qK_141, qR_139_5, qK_142, qR_139_6, qK_143, qR_139_7, qK_144, qR_139_8, qK_145, qR_139_9, qK_146, qR_139_21, qK_147, qR_139_25, qK_148, qR_139_30, qK_149, qR_139_31, qK_150, qR_139_33, qK_151, qR_139_34, qK_152, qR_139_35, qK_153, qR_139_36, qK_154, qR_139_39, qK_155, qR_139_40, qK_156, qR_139_41, qK_157]
      rw [hfl.1]
      simp (disch := omega) only [nI_leI, nI_ltI, nI_eq, nI_cl, qin_eq, nI_add, nI_mul, qb_z, qb_t, qb_f, nI_ne0', Nat.reduceAdd, Bool.false_eq_true, if_false, if_true, true_and, and_true, Nat.reduceEqDiff, not_true_eq_false, not_false_eq_true, false_implies, true_implies, ite_true, ite_false]
      exact ⟨fun _ => b, fun h0 => by omega⟩
    · simp only [he]
      refine qV.go 30 [77] ok_258 ?_
      simp only [qW_nop, qW_iconst, qW_bipush, qW_sipush, qW_iloadn, qW_aloadn, qW_istoren, qW_iinc, qW_iadd, qW_pop, qW_ifeq, qW_ifne, qW_icge, qW_ifle, qW_goto, qW_getf, qW_iald, qW_iast, qW_cv1_0, qW_cv2_0, qW_cv3_0, qW_iret0, qW_putf0, Nat.reduceAdd, Nat.reduceMul, Nat.reduceBEq, Nat.reduceEqDiff, Nat.reduceLT, Nat.reduceLeDiff, Nat.zero_le, nI_add, nI_mul, nI_cl, qin_eq, qofI, qlg_0, qlg_s, qls_i0, qls_r0, qls_l0, qls_1, qls_2, qkl_i, qkl_r, qkl_l, qkl_n, qIsI_i, qIsL_l, qIsR_r, qint_i, qil_i, qil_r, qil_l, qf4_0, qf4_1, qf4_2, qf4_3, qf2_0, qf2_1, qcs_n, qcs_i, qcs_r, qcs_l, qst_n, qst_c, qJ_0, qJ_st, qJ_go, qfl_I, qfl_Z, qfl_L, qfl_R, qrI_i, qrL_l, qrV_v, qRcv_0, qRcv_s, eq_self, true_and, and_true, true_or, or_true, false_and, and_false, false_or, or_false, ite_true, if_true, if_false, Bool.true_or, Bool.false_or, Bool.or_false, beq_self_eq_true, Bool.false_eq_true, bX12_weeks_0, bX12_weeks_17, bX12_weeks_38, bX12_weeks_57, bX12_weeks_77, bX12_weeks_102, bX12_weeks_131, kX12_weeks_0, kX12_weeks_17, kX12_weeks_38, kX12_weeks_57, kX12_weeks_77, kX12_weeks_102, kX12_weeks_131, qK_139, qR_139_0, qK_140, qR_139_1, qK_141, qR_139_5, qK_142, qR_139_6, qK_143, qR_139_7, qK_144, qR_139_8, qK_145, qR_139_9, qK_146, qR_139_21, qK_147, qR_139_25, qK_148, qR_139_30, qK_149, qR_139_31, qK_150, qR_139_33, qK_151, qR_139_34, qK_152, qR_139_35, qK_153, qR_139_36, qK_154, qR_139_39, qK_155, qR_139_40, qK_156, qR_139_41, qK_157]
      rw [hpd.2.1, hdp]
      simp (disch := omega) only [nI_leI, nI_ltI, nI_eq, nI_cl, qin_eq, nI_add, nI_mul, qb_z, qb_t, qb_f, nI_ne0', Nat.reduceAdd, Bool.false_eq_true, if_false, if_true, true_and, and_true, Nat.reduceEqDiff, not_true_eq_false, not_false_eq_true, false_implies, true_implies, ite_true, ite_false]
      have l0 : (nI d ≤ 0) = (d ≤ 0) := by
        have z0 : (0 : Int32).toInt = 0 := rfl
        rw [qle, nI_t (by omega), z0]
        apply propext
        omega
      rw [l0]
      refine ⟨fun h0 => by omega, fun _ => ?_⟩
      refine qBI.of (m_fails hpd) (by decide) (fun r σ5 g5 => ?_)
      obtain ⟨rfl, g6, g7⟩ := g5
      exact bad _ σ5 l2 l3 he g6 (f4.tr (zPw_y g7))
    · simp only [hs]
      have n60 : s.2.1 ≤ 60 := by have := hsq.1; have := hsq.2.1; omega
      obtain ⟨y1, y2, y3, y4, y5⟩ := hdr
      rw [hd0] at y2
      refine qV.go 30 [77] ok_258 ?_
      simp only [qW_nop, qW_iconst, qW_bipush, qW_sipush, qW_iloadn, qW_aloadn, qW_istoren, qW_iinc, qW_iadd, qW_pop, qW_ifeq, qW_ifne, qW_icge, qW_ifle, qW_goto, qW_getf, qW_iald, qW_iast, qW_cv1_0, qW_cv2_0, qW_cv3_0, qW_iret0, qW_putf0, Nat.reduceAdd, Nat.reduceMul, Nat.reduceBEq, Nat.reduceEqDiff, Nat.reduceLT, Nat.reduceLeDiff, Nat.zero_le, nI_add, nI_mul, nI_cl, qin_eq, qofI, qlg_0, qlg_s, qls_i0, qls_r0, qls_l0, qls_1, qls_2, qkl_i, qkl_r, qkl_l, qkl_n, qIsI_i, qIsL_l, qIsR_r, qint_i, qil_i, qil_r, qil_l, qf4_0, qf4_1, qf4_2, qf4_3, qf2_0, qf2_1, qcs_n, qcs_i, qcs_r, qcs_l, qst_n, qst_c, qJ_0, qJ_st, qJ_go, qfl_I, qfl_Z, qfl_L, qfl_R, qrI_i, qrL_l, qrV_v, qRcv_0, qRcv_s, eq_self, true_and, and_true, true_or, or_true, false_and, and_false, false_or, or_false, ite_true, if_true, if_false, Bool.true_or, Bool.false_or, Bool.or_false, beq_self_eq_true, Bool.false_eq_true, bX12_weeks_0, bX12_weeks_17, bX12_weeks_38, bX12_weeks_57, bX12_weeks_77, bX12_weeks_102, bX12_weeks_131, kX12_weeks_0, kX12_weeks_17, kX12_weeks_38, kX12_weeks_57, kX12_weeks_77, kX12_weeks_102, kX12_weeks_131, qK_139, qR_139_0, qK_140, qR_139_1, qK_141, qR_139_5, qK_142, qR_139_6, qK_143, qR_139_7, qK_144, qR_139_8, qK_145, qR_139_9, qK_146, qR_139_21, qK_147, qR_139_25, qK_148, qR_139_30, qK_149, qR_139_31, qK_150, qR_139_33, qK_151, qR_139_34, qK_152, qR_139_35, qK_153, qR_139_36, qK_154, qR_139_39, qK_155, qR_139_40, qK_156, qR_139_41, qK_157]
      rw [hf, y2]
      simp (disch := omega) only [nI_leI, nI_ltI, nI_eq, nI_cl, qin_eq, nI_add, nI_mul, qb_z, qb_t, qb_f, nI_ne0', Nat.reduceAdd, Bool.false_eq_true, if_false, if_true, true_and, and_true, Nat.reduceEqDiff, not_true_eq_false, not_false_eq_true, false_implies, true_implies, ite_true, ite_false]
      have l0 : (nI 0 ≤ 0) = True := by simp [nI_0]
      rw [l0]
      refine ⟨fun _ => ?_, fun hh => absurd trivial hh⟩
      refine qV.go 30 [102] ok_258 ?_
      simp only [qW_nop, qW_iconst, qW_bipush, qW_sipush, qW_iloadn, qW_aloadn, qW_istoren, qW_iinc, qW_iadd, qW_pop, qW_ifeq, qW_ifne, qW_icge, qW_ifle, qW_goto, qW_getf, qW_iald, qW_iast, qW_cv1_0, qW_cv2_0, qW_cv3_0, qW_iret0, qW_putf0, Nat.reduceAdd, Nat.reduceMul, Nat.reduceBEq, Nat.reduceEqDiff, Nat.reduceLT, Nat.reduceLeDiff, Nat.zero_le, nI_add, nI_mul, nI_cl, qin_eq, qofI, qlg_0, qlg_s, qls_i0, qls_r0, qls_l0, qls_1, qls_2, qkl_i, qkl_r, qkl_l, qkl_n, qIsI_i, qIsL_l, qIsR_r, qint_i, qil_i, qil_r, qil_l, qf4_0, qf4_1, qf4_2, qf4_3, qf2_0, qf2_1, qcs_n, qcs_i, qcs_r, qcs_l, qst_n, qst_c, qJ_0, qJ_st, qJ_go, qfl_I, qfl_Z, qfl_L, qfl_R, qrI_i, qrL_l, qrV_v, qRcv_0, qRcv_s, eq_self, true_and, and_true, true_or, or_true, false_and, and_false, false_or, or_false, ite_true, if_true, if_false, Bool.true_or, Bool.false_or, Bool.or_false, beq_self_eq_true, Bool.false_eq_true, bX12_weeks_0, bX12_weeks_17, bX12_weeks_38, bX12_weeks_57, bX12_weeks_77, bX12_weeks_102, bX12_weeks_131, kX12_weeks_0, kX12_weeks_17, kX12_weeks_38, kX12_weeks_57, kX12_weeks_77, kX12_weeks_102, kX12_weeks_131, qK_139, qR_139_0, qK_140, qR_139_1, qK_141, qR_139_5, qK_142, qR_139_6, qK_143, qR_139_7, qK_144, qR_139_8, qK_145, qR_139_9, qK_146, qR_139_21, qK_147, qR_139_25, qK_148, qR_139_30, qK_149, qR_139_31, qK_150, qR_139_33, qK_151, qR_139_34, qK_152, qR_139_35, qK_153, qR_139_36, qK_154, qR_139_39, qK_155, qR_139_40, qK_156, qR_139_41, qK_157]
      rw [hf, y1]
      simp (disch := omega) only [nI_leI, nI_ltI, nI_eq, nI_cl, qin_eq, nI_add, nI_mul, qb_z, qb_t, qb_f, nI_ne0', Nat.reduceAdd, Bool.false_eq_true, if_false, if_true, true_and, and_true, Nat.reduceEqDiff, not_true_eq_false, not_false_eq_true, false_implies, true_implies, ite_true, ite_false]
      have u1 : (qwi σ4 140 6 (nI s.2.1)).1 140 6 = nI s.2.1 := by rw [qwi_1, if_pos ⟨rfl, rfl⟩]
      have u2 : ∀ a j, ¬ (a = 140 ∧ j = 6) → (qwi σ4 140 6 (nI s.2.1)).1 a j = σ4.1 a j := fun a j hn => by rw [qwi_1, if_neg hn]
      have u3 : (qwi σ4 140 6 (nI s.2.1)).2 = σ4.2 := rfl
      have r4 : zRef σ4 (qwi σ4 140 6 (nI s.2.1)) := zG.wi (show 139 ≤ 140 by decide)
      generalize qwi σ4 140 6 (nI s.2.1) = σ5 at u1 u2 u3 r4 ⊢
      refine qdown (n := 360) (P := fun q => qV 258 12 (.inl (zCall σ (nI s.2.2.1, sS (sE (sP (sK A (A.1.1, A.1.2.1, some (s.1, s.2.1))) (0, (aP A).2)) (nI 0, iI (-1))) 0))) 102 [some (qr 139), some (qi x), some (qi l2), some (qi (nI (88 + q)))] [] (zmv σ5 140 1912 88 q)) (fun q hq ih => ?_) 0 (Nat.zero_le _) |> fun hh => by rw [zmv_0] at hh; exact hh
      refine qV.go 30 [102] ok_258 ?_
      simp only [qW_nop, qW_iconst, qW_bipush, qW_sipush, qW_iloadn, qW_aloadn, qW_istoren, qW_iinc, qW_iadd, qW_pop, qW_ifeq, qW_ifne, qW_icge, qW_ifle, qW_goto, qW_getf, qW_iald, qW_iast, qW_cv1_0, qW_cv2_0, qW_cv3_0, qW_iret0, qW_putf0, Nat.reduceAdd, Nat.reduceMul, Nat.reduceBEq, Nat.reduceEqDiff, Nat.reduceLT, Nat.reduceLeDiff, Nat.zero_le, nI_add, nI_mul, nI_cl, qin_eq, qofI, qlg_0, qlg_s, qls_i0, qls_r0, qls_l0, qls_1, qls_2, qkl_i, qkl_r, qkl_l, qkl_n, qIsI_i, qIsL_l, qIsR_r, qint_i, qil_i, qil_r, qil_l, qf4_0, qf4_1, qf4_2, qf4_3, qf2_0, qf2_1, qcs_n, qcs_i, qcs_r, qcs_l, qst_n, qst_c, qJ_0, qJ_st, qJ_go, qfl_I, qfl_Z, qfl_L, qfl_R, qrI_i, qrL_l, qrV_v, qRcv_0, qRcv_s, eq_self, true_and, and_true, true_or, or_true, false_and, and_false, false_or, or_false, ite_true, if_true, if_false, Bool.true_or, Bool.false_or, Bool.or_false, beq_self_eq_true, Bool.false_eq_true, bX12_weeks_0, bX12_weeks_17, bX12_weeks_38, bX12_weeks_57, bX12_weeks_77, bX12_weeks_102, bX12_weeks_131, kX12_weeks_0, kX12_weeks_17, kX12_weeks_38, kX12_weeks_57, kX12_weeks_77, kX12_weeks_102, kX12_weeks_131, qK_139, qR_139_0, qK_140, qR_139_1, qK_141, qR_139_5, qK_142, qR_139_6, qK_143, qR_139_7, qK_144, qR_139_8, qK_145, qR_139_9, qK_146, qR_139_21, qK_147, qR_139_25, qK_148, qR_139_30, qK_149, qR_139_31, qK_150, qR_139_33, qK_151, qR_139_34, qK_152, qR_139_35, qK_153, qR_139_36, qK_154, qR_139_39, qK_155, qR_139_40, qK_156, qR_139_41, qK_157]
      simp (disch := omega) only [nI_leI, nI_ltI, nI_eq, nI_cl, qin_eq, nI_add, nI_mul, qb_z, qb_t, qb_f, nI_ne0', Nat.reduceAdd, Bool.false_eq_true, if_false, if_true, true_and, and_true, Nat.reduceEqDiff, not_true_eq_false, not_false_eq_true, false_implies, true_implies, ite_true, ite_false]
      refine ⟨fun g => ?_, fun g => ?_⟩
      · have eq : q = 360 := by omega
        subst eq
        have m1 : ∀ j, j < 360 → (zmv σ5 140 1912 88 360).1 140 (88 + j) = σ5.1 140 (1912 + j) := fun j hj => by
          show (if 140 = 140 ∧ 88 ≤ 88 + j ∧ 88 + j < 88 + 360 then σ5.1 140 (1912 + (88 + j - 88)) else σ5.1 140 (88 + j)) = _
          rw [if_pos ⟨rfl, by omega, by omega⟩, Nat.add_sub_cancel_left]
        have m3 : ∀ a j, ¬ (a = 140 ∧ 88 ≤ j ∧ j < 448) → (zmv σ5 140 1912 88 360).1 a j = σ5.1 a j := fun a j hn => if_neg (by omega)
        have m4 : (zmv σ5 140 1912 88 360).2 = σ5.2 := rfl
        have r5 : zRef σ5 (zmv σ5 140 1912 88 360) := ⟨fun a j hn => m3 a j (by omega), fun a j hn => by rw [m4]⟩
        generalize zmv σ5 140 1912 88 360 = σ6 at m1 m3 m4 r5 ⊢
        have fs : σ6.1 139 18 = nI 0 := by rw [m3 _ _ (by omega), u2 _ _ (by omega)]; exact hf
        have cs : σ6.1 139 23 = nI s.2.2.1 := by rw [m3 _ _ (by omega), u2 _ _ (by omega)]; exact y3
        rw [cs]
        refine qBI.of (m_taken σ6 _ fs (by decide)) (by decide) (fun r σ7 g6 => ?_)
        obtain ⟨rfl, rfl⟩ := g6
        rw [if_pos rfl, if_pos rfl]
        have at7 : ∀ j, (qwi (qwi σ6 139 16 (nI 0)) 139 2 (nI 0)).1 140 j = σ6.1 140 j := fun j => by rw [qwi_1, if_neg (by omega), qwi_1, if_neg (by omega)]
        have e5 : ∀ a j, zKp a j → ¬ (a = 140 ∧ (j = 6 ∨ (88 ≤ j ∧ j < 448))) → ¬ (a = 139 ∧ (j = 10 ∨ j = 16 ∨ j = 17 ∨ j = 2)) → (qwi (qwi σ6 139 16 (nI 0)) 139 2 (nI 0)).1 a j = σ.1 a j := fun a j hk h456 hn => by
          rw [qwi_1, if_neg (by omega), qwi_1, if_neg (by omega), m3 _ _ (by omega), u2 _ _ (by omega), f4.1 _ _ (by unfold zKp at hk; unfold zPy zPw; omega), e3 _ _ hk (by omega)]
        have e6 : ∀ a j, (qwi (qwi σ6 139 16 (nI 0)) 139 2 (nI 0)).2 a j = σ.2 a j := fun a j => by
          rw [qwi_2, qwi_2, m4, u3, f4.2, e4]
        refine ⟨rfl, hA.rd hW (fun a j hk h1 h2 => e5 a j hk (by omega) h2) (fun a j _ _ => e6 a j) ⟨?_, fun b hb => ?_, ?_, fun k hk i hi => ?_⟩ ?_ ?_ ?_ ?_, ((((r3.tr (zRf_y f4)).tr r4).tr r5).tr (zG.wi (show 139 ≤ 139 by decide))).tr (zG.wi (show 139 ≤ 139 by decide))⟩
        · exact h1.1.kp6 w1.1.1 w1.1.2.1 (fun j hj h6 => e5 _ _ (by unfold zKp; omega) (by omega) (by omega))
        · rw [e6]; exact h1.2.1 b hb
        · rw [at7, show 456 * 0 + 6 = 6 from rfl, m3 _ _ (by omega)]
          exact u1
        · have hk : k < s.2.1 := hk
          rw [at7, show 456 * 0 + (88 + 6 * k + i) = 88 + (6 * k + i) by omega, m1 _ (by omega), u2 _ _ (by omega), show 1912 + (6 * k + i) = 1912 + 6 * k + i by omega]
          exact y5 k hk i hi
        · rw [qwi_1, if_neg (by decide), qwi_1, if_neg (by decide), m3 _ _ (by omega), u2 _ _ (by omega), f4.1 _ _ (by unfold zPy zPw; omega)]; exact t3
        · rw [qwi_1, if_neg (by decide), qwi_1, if_pos ⟨rfl, rfl⟩]
        · rw [qwi_1, if_neg (by decide), qwi_1, if_neg (by decide), m3 _ _ (by omega), u2 _ _ (by omega)]; exact hfp
        · rw [qwi_1, if_pos ⟨rfl, rfl⟩]
      · have := zmv_s (σ := σ5) (a := 140) (src := 1912) (dst := 88) (k := q) (by omega)
        rw [show 1824 + (88 + q) = 1912 + q by omega, this]
        exact ih (by omega)
  · rw [if_neg hb] at g
    obtain ⟨rfl, rfl⟩ := g
    simp (disch := omega) only [nI_leI, nI_ltI, nI_eq, nI_cl, qin_eq, nI_add, nI_mul, qb_z, qb_t, qb_f, nI_ne0', Nat.reduceAdd, Bool.false_eq_true, if_false, if_true, true_and, and_true, Nat.reduceEqDiff, not_true_eq_false, not_false_eq_true, false_implies, true_implies, ite_true, ite_false]
    have eY : yWeeks A x = yNo A 1 := by unfold yWeeks; rw [if_pos (by simpa using hb)]
    rw [eY]
    refine qBI.of (m_refuse _ _) (by decide) (fun r σ1 g => ?_)
    obtain ⟨rfl, rfl⟩ := g
    exact ⟨rfl, hA.st hW 1, zRef.st⟩
