/-! the reference: camp -/
theorem zMA.rd {σ σ' : qSg} {A : zA} (h : zMA σ A) (hW : zAW A) {k : zK} {t : Nat → Nat} {x y : Int32} {v : Nat}
    (e : ∀ a j, zKp a j → ¬ (a = 140 ∧ j < 456) → ¬ (a = 139 ∧ (j = 10 ∨ j = 16 ∨ j = 17 ∨ j = 2)) → σ'.1 a j = σ.1 a j)
    (e2 : ∀ a j, zKq a j → ¬ (a = 141 ∧ j < 8) → σ'.2 a j = σ.2 a j) (hK : zMK σ' 0 k) (ht : σ'.1 139 10 = nI 0) (hx : σ'.1 139 16 = x) (hy : σ'.1 139 17 = y) (hv : σ'.1 139 2 = nI v) :
    zMA σ' (sS (sE (sP (sK A k) (0, t)) (x, y)) v) := by
  obtain ⟨w1, w2, w3, -⟩ := hW
  obtain ⟨h1, h2, h3, h4, h5, h6, h7, h8, h9, h10⟩ := h
  refine ⟨hK, ?_, fun i i1 i2 => (h3 i i1 i2).kp (w3 i i1 i2) (fun j hj => ?_) (fun j hj => ?_), ?_, ⟨ht, fun j hj => absurd hj (Nat.not_lt_zero _)⟩, ⟨?_, ?_⟩, hv, ⟨hx, hy⟩, ⟨?_, fun hd j hj => ?_⟩, fun j hj => ?_⟩
  · rw [e _ _ (by unfold zKp; omega) (by omega) (by omega)]; exact h2
  · have : i ≤ (aM A).1 := i2
    rw [e _ _ (by unfold zKp; omega) (by omega) (by omega)]
  · have : i ≤ (aM A).1 := i2
    rw [e2 _ _ (by unfold zKq; omega) (by omega)]
  · exact h4.kp (fun j => e _ _ (by unfold zKp; omega) (by omega) (by omega)) (fun j => e _ _ (by unfold zKp; omega) (by omega) (by omega)) (fun j => e2 _ _ (by unfold zKq; omega) (by omega))
  · rw [e2 _ _ (by unfold zKq; omega) (by omega)]; exact h6.1
  · rw [e2 _ _ (by unfold zKq; omega) (by omega)]; exact h6.2
  · rw [e _ _ (by unfold zKp; omega) (by omega) (by omega)]; exact h9.1
  · rw [e _ _ (by unfold zKp; omega) (by omega) (by omega)]; exact h9.2 hd j hj
  · rw [e _ _ (by unfold zKp; omega) (by omega) (by omega)]; exact h10 j hj
set_option maxRecDepth 20000 in
theorem m_taken (σ : qSg) (v : Int32) {f : Nat} (hf : σ.1 139 18 = nI f) (h10 : f < 10) : qCI 2 243 [qr 139, qi v] σ (fun r σ' => r = (if f = 0 then v else iI (-1)) ∧ σ' = qwi (qwi σ 139 16 (nI f)) 139 2 (nI (if f = 0 then 0 else 9))) := by
  refine qCI.of [some (qr 139), some (qi v)] ok_243 (Nat.le_of_ble_eq_true rfl) rfl ?_
  refine qV.go 30 [9999] ok_243 ?_
  simp only [qW_nop, qW_bipush, qW_iloadn, qW_aloadn, qW_ifle, qW_goto, qW_getf, qW_cv2_0, qW_iret0, qW_putf0, Nat.reduceAdd, Nat.reduceMul, Nat.reduceBEq, Nat.reduceEqDiff, Nat.reduceLT, Nat.reduceLeDiff, Nat.zero_le, nI_add, nI_mul, nI_cl, qin_eq, qofI, qlg_0, qlg_s, qls_i0, qls_r0, qls_l0, qls_1, qls_2, qkl_i, qkl_r, qkl_l, qkl_n, qIsI_i, qIsL_l, qIsR_r, qint_i, qil_i, qil_r, qil_l, qf4_0, qf4_1, qf4_2, qf4_3, qf2_0, qf2_1, qcs_n, qcs_i, qcs_r, qcs_l, qst_n, qst_c, qJ_0, qJ_st, qJ_go, qfl_I, qfl_Z, qfl_L, qfl_R, qrI_i, qrL_l, qrV_v, qRcv_0, qRcv_s, eq_self, true_and, and_true, true_or, or_true, false_and, and_false, false_or, or_false, ite_true, if_true, if_false, Bool.true_or, Bool.false_or, Bool.or_false, beq_self_eq_true, Bool.false_eq_true, bX12_taken_0, bX12_taken_24, bX12_taken_29, kX12_taken_0, kX12_taken_24, kX12_taken_29, qK_139, qR_139_0, qK_140, qR_139_1, qK_141, qR_139_5, qK_142, qR_139_6, qK_143, qR_139_7, qK_144, qR_139_8, qK_145, qR_139_9, qK_146, qR_139_21, qK_147, qR_139_25, qK_148, qR_139_30, qK_149, qR_139_31, qK_150, qR_139_33, qK_151, qR_139_34, qK_152, qR_139_35, qK_153, qR_139_36, qK_154, qR_139_39, qK_155, qR_139_40, qK_156, qR_139_41, qK_157]
  rw [hf]
  have e1 : (qwi σ 139 16 (nI f)).1 139 18 = nI f := by rw [qwi_1, if_neg (by decide)]; exact hf
  rw [e1]
  have l0 : (nI f ≤ 0) = (f = 0) := by
    have z0 : (0 : Int32).toInt = 0 := rfl
    rw [qle, nI_t (by omega), z0]
    apply propext
    omega
  rw [l0]
  refine ⟨fun h => ?_, fun h => ?_⟩
  · refine qBI.of (m_gives _ _) (by decide) (fun r σ1 g => ?_)
    obtain ⟨rfl, rfl⟩ := g
    rw [if_pos h, if_pos h]
    exact ⟨rfl, rfl⟩
  · refine qBI.of (m_refuse _ _) (by decide) (fun r σ1 g => ?_)
    obtain ⟨rfl, rfl⟩ := g
    rw [if_neg h, if_neg h]
    exact ⟨rfl, rfl⟩
theorem zplain_0 (σ : qSg) : (∀ j, 1824 ≤ j → j < 2280 → (zplain σ 1824).1 140 j = if j = 1826 then nI 4 else if j = 1827 then nI 3 else if j = 1828 then nI 4 else if j = 1830 then iI (-1) else nI 0) ∧ zF (fun a j => a = 140 ∧ 1824 ≤ j ∧ j < 2280) σ (zplain σ 1824) := by
  unfold zplain
  refine ⟨fun j h1 h2 => ?_, fun a j hp => ?_, rfl⟩
  · simp only [qwi_1, true_and]
    by_cases a1 : j = 1830
    · subst a1; rfl
    · rw [if_neg a1]
      by_cases a2 : j = 1828
      · subst a2; rfl
      · rw [if_neg a2]
        by_cases a3 : j = 1827
        · subst a3; rfl
        · rw [if_neg a3]
          by_cases a4 : j = 1826
          · subst a4; rfl
          · rw [if_neg a4, if_pos ⟨h1, h2⟩, if_neg a4, if_neg a3, if_neg a2, if_neg a1]
  · have hp : ¬ (a = 140 ∧ 1824 ≤ j ∧ j < 2280) := hp
    rw [qwi_1, if_neg (by omega), qwi_1, if_neg (by omega), qwi_1, if_neg (by omega), qwi_1, if_neg (by omega)]
    exact if_neg (by omega)
theorem zDr_0 (σ : qSg) : zDr (zplain σ 1824) zC0 (fun _ => []) := by
  have h := (zplain_0 σ).1
  have b0 : zC0 0 0 = 0 := rfl
  have q0 : zC0 0 1 = 0 := rfl
  refine ⟨⟨fun j hj => ?_, fun b hb => ?_, fun q hq => ?_⟩, fun b hb => ?_, fun b _ hb => ?_, fun q _ hq => ?_⟩
  · rw [h _ (by omega) (by omega)]
    rcases (show j = 0 ∨ j = 1 ∨ j = 2 ∨ j = 3 ∨ j = 4 ∨ j = 5 by omega) with rfl | rfl | rfl | rfl | rfl | rfl <;> rfl
  · rw [b0] at hb; exact absurd hb (Nat.not_lt_zero _)
  · rw [q0] at hq; exact absurd hq (Nat.not_lt_zero _)
  · rw [b0] at hb; exact absurd hb (Nat.not_lt_zero _)
  · rw [h _ (by omega) (by omega), if_neg (by omega), if_neg (by omega), if_neg (by omega), if_neg (by omega)]
  · rw [h _ (by omega) (by omega), if_neg (by omega), if_neg (by omega), if_neg (by omega), if_neg (by omega)]
/-- what a camp's call gives -/
def yCamp (A : zA) (x : Int32) : Int32 × zA :=
  if zbeg (aP A) x 900 = false then yNo A 1
  else match zrdC (ztx (aP A).2 x.toInt.toNat) with
    | .inl e => (iI (-1), sS (sE (sP (sK A A.1) (0, (aP A).2)) (nI e.1, nI e.2)) 9)
    | .inr s => (nI (s.1 0 0), sS (sE (sP (sK A (s.1, s.2.1, none)) (0, (aP A).2)) (nI 0, iI (-1))) 0)
set_option maxRecDepth 20000 in
theorem camp_loop {σ : qSg} {B : Nat → Nat} {n : Nat} (hB : zBW B n) (Q : qQ) (x : Int32)
    (K : ∀ σ' e (l2 : Int32) l3, zrdC B = .inl e → zFl σ' e → zG zPq zRq σ σ' → qV 252 10 Q 50 [some (qr 139), some (qi x), some (qi l2), l3] [] σ')
    (G : ∀ σ' s (l2 : Int32) l3, zrdC B = .inr s → σ'.1 139 18 = nI 0 → σ'.1 139 17 = iI (-1) → zDr σ' s.1 s.2.1 → zG zPq zRq σ σ' → qV 252 10 Q 50 [some (qr 139), some (qi x), some (qi l2), l3] [] σ') :
    ∀ f (s : zS) (p : Nat) (σ1 : qSg) (l3 : Option qPV), p ≤ n → n - p < f → zSW s → zPd σ1 B n p → zDr σ1 s.1 s.2.1 → zTP σ1 s.2.2.1 s.2.2.2 → zG zPq zRq σ σ1 → zpCamp B f s p = zrdC B →
    qV 252 10 Q 31 [some (qr 139), some (qi x), some (qi (nI 1)), l3] [] σ1
  | 0, _, _, _, _, _, h, _, _, _, _, _, _ => absurd h (Nat.not_lt_zero _)
  | f + 1, s, p, σ1, l3, hp, hf, hs, h, hd, ht, fr, hR => by
    have hk5 := tkK_lt B p
    refine qV.go 30 [31, 50] ok_252 ?_
    simp only [qW_nop, qW_iconst, qW_bipush, qW_sipush, qW_iloadn, qW_aloadn, qW_istoren, qW_iinc, qW_iadd, qW_ifeq, qW_ifne, qW_icge, qW_goto, qW_getf, qW_iald, qW_lald, qW_iast, qW_last, qW_cv1_0, qW_cv2_0, qW_cv2_2, qW_cv3_0, qW_iret0, qW_putf0, Nat.reduceAdd, Nat.reduceMul, Nat.reduceBEq, Nat.reduceEqDiff, Nat.reduceLT, Nat.reduceLeDiff, Nat.zero_le, nI_add, nI_mul, nI_cl, qin_eq, qofI, qlg_0, qlg_s, qls_i0, qls_r0, qls_l0, qls_1, qls_2, qkl_i, qkl_r, qkl_l, qkl_n, qIsI_i, qIsL_l, qIsR_r, qint_i, qil_i, qil_r, qil_l, qf4_0, qf4_1, qf4_2, qf4_3, qf2_0, qf2_1, qcs_n, qcs_i, qcs_r, qcs_l, qst_n, qst_c, qJ_0, qJ_st, qJ_go, qfl_I, qfl_Z, qfl_L, qfl_R, qrI_i, qrL_l, qrV_v, qRcv_0, qRcv_s, eq_self, true_and, and_true, true_or, or_true, false_and, and_false, false_or, or_false, ite_true, if_true, if_false, Bool.true_or, Bool.false_or, Bool.or_false, beq_self_eq_true, Bool.false_eq_true, bX12_camp_0, bX12_camp_17, bX12_camp_31, bX12_camp_50, bX12_camp_59, bX12_camp_88, bX12_camp_90, bX12_camp_117, kX12_camp_0, kX12_camp_17, kX12_camp_31, kX12_camp_50, kX12_camp_59, kX12_camp_88, kX12_camp_90, kX12_camp_117, qK_139, qR_139_0, qK_140, qR_139_1, qK_141, qR_139_5, qK_142, qR_139_6, qK_143, qR_139_7, qK_144, qR_139_8, qK_145, qR_139_9, qK_146, qR_139_21, qK_147, qR_139_25, qK_148, qR_139_30, qK_149, qR_139_31, qK_150, qR_139_33, qK_151, qR_139_34, qK_152, qR_139_35, qK_153, qR_139_36, qK_154, qR_139_39, qK_155, qR_139_40, qK_156, qR_139_41, qK_157]
    rw [h.1.2.1]
    simp (disch := omega) only [nI_leI, nI_ltI, nI_eq, nI_cl, qin_eq, nI_add, nI_mul, qb_z, qb_t, qb_f, nI_ne0', Nat.reduceAdd, Bool.false_eq_true, if_false, if_true, true_and, and_true, Nat.reduceEqDiff, not_true_eq_false, not_false_eq_true, false_implies, true_implies, ite_true, ite_false]
    refine ⟨fun g => ?_, fun g => ?_⟩
    · rw [zpCamp, if_pos g] at hR
      exact G σ1 s _ _ hR.symm h.2.1 h.2.2 hd fr
    · rw [zpCamp, if_neg g] at hR
      refine qBI.of (m_campPart hB hp hs h hd ht) (by decide) (fun r σ2 g2 => ?_)
      obtain ⟨g2, f2⟩ := g2
      rcases zPo_c g2 with ⟨e, he, rfl, hfl⟩ | ⟨v, hv, rfl, v1, v2, v3⟩
      · rw [he] at hR
        refine qV.go 30 [31, 50] ok_252 ?_
        simp only [qW_nop, qW_iconst, qW_bipush, qW_sipush, qW_iloadn, qW_aloadn, qW_istoren, qW_iinc, qW_iadd, qW_ifeq, qW_ifne, qW_icge, qW_goto, qW_getf, qW_iald, qW_lald, qW_iast, qW_last, qW_cv1_0, qW_cv2_0, qW_cv2_2, qW_cv3_0, qW_iret0, qW_putf0, Nat.reduceAdd, Nat.reduceMul, Nat.reduceBEq, Nat.reduceEqDiff, Nat.reduceLT, Nat.reduceLeDiff, Nat.zero_le, nI_add, nI_mul, nI_cl, qin_eq, qofI, qlg_0, qlg_s, qls_i0, qls_r0, qls_l0, qls_1, qls_2, qkl_i, qkl_r, qkl_l, qkl_n, qIsI_i, qIsL_l, qIsR_r, qint_i, qil_i, qil_r, qil_l, qf4_0, qf4_1, qf4_2, qf4_3, qf2_0, qf2_1, qcs_n, qcs_i, qcs_r, qcs_l, qst_n, qst_c, qJ_0, qJ_st, qJ_go, qfl_I, qfl_Z, qfl_L, qfl_R, qrI_i, qrL_l, qrV_v, qRcv_0, qRcv_s, eq_self, true_and, and_true, true_or, or_true, false_and, and_false, false_or, or_false, ite_true, if_true, if_false, Bool.true_or, Bool.false_or, Bool.or_false, beq_self_eq_true, Bool.false_eq_true, bX12_camp_0, bX12_camp_17, bX12_camp_31, bX12_camp_50, bX12_camp_59, bX12_camp_88, bX12_camp_90, bX12_camp_117, kX12_camp_0, kX12_camp_17, kX12_camp_31, kX12_camp_50, kX12_camp_59, kX12_camp_88, kX12_camp_90, kX12_camp_117, qK_139, qR_139_0, qK_140, qR_139_1, qK_141, qR_139_5, qK_142, qR_139_6, qK_143, qR_139_7, qK_144, qR_139_8, qK_145, qR_139_9, qK_146, qR_139_21, qK_147, qR_139_25, qK_148, qR_139_30, qK_149, qR_139_31, qK_150, qR_139_33, qK_151, qR_139_34, qK_152, qR_139_35, qK_153, qR_139_36, qK_154, qR_139_39, qK_155, qR_139_40, qK_156, qR_139_41, qK_157]
        simp (disch := omega) only [nI_leI, nI_ltI, nI_eq, nI_cl, qin_eq, nI_add, nI_mul, qb_z, qb_t, qb_f, nI_ne0', Nat.reduceAdd, Bool.false_eq_true, if_false, if_true, true_and, and_true, Nat.reduceEqDiff, not_true_eq_false, not_false_eq_true, false_implies, true_implies, ite_true, ite_false]
        exact K σ2 e _ _ hR.symm hfl (fr.tr f2)
      · rw [hv] at hR
        have s1 := zpPart_inr hB hp hs hv
        exact camp_loop hB Q x K G f v.1 v.2 σ2 l3 s1.2.1 (by omega) s1.2.2 v1 v2 v3 (fr.tr f2) hR
theorem zRf_q {σ σ' : qSg} (f : zG zPq zRq σ σ') : zRef σ σ' := f.wk (fun a j h => by unfold zPq zPw at h; show 139 ≤ a; omega) (fun a j h => by unfold zRq at h; show 139 ≤ a; omega)
set_option maxHeartbeats 1000000 in
set_option maxRecDepth 20000 in
theorem M_camp {σ : qSg} {A : zA} (hA : zMA σ A) (hW : zAW A) (x : Int32) : qCI 10 252 [qr 139, qi x] σ (zCall σ (yCamp A x)) := by
  obtain ⟨w1, w2, w3, w4, w5, w6⟩ := id hW
  obtain ⟨h1, h2, h3, h4, h5, h6, h7, h8, h9, h10⟩ := id hA
  refine qCI.of [some (qr 139), some (qi x), none, none] ok_252 (Nat.le_of_ble_eq_true rfl) rfl ?_
  refine qV.go 30 [31, 50] ok_252 ?_
  simp only [qW_nop, qW_iconst, qW_bipush, qW_sipush, qW_iloadn, qW_aloadn, qW_istoren, qW_iinc, qW_iadd, qW_ifeq, qW_ifne, qW_icge, qW_goto, qW_getf, qW_iald, qW_lald, qW_iast, qW_last, qW_cv1_0, qW_cv2_0, qW_cv2_2, qW_cv3_0, qW_iret0, qW_putf0, Nat.reduceAdd, Nat.reduceMul, Nat.reduceBEq, Nat.reduceEqDiff, Nat.reduceLT, Nat.reduceLeDiff, Nat.zero_le, nI_add, nI_mul, nI_cl, qin_eq, qofI, qlg_0, qlg_s, qls_i0, qls_r0, qls_l0, qls_1, qls_2, qkl_i, qkl_r, qkl_l, qkl_n, qIsI_i, qIsL_l, qIsR_r, qint_i, qil_i, qil_r, qil_l, qf4_0, qf4_1, qf4_2, qf4_3, qf2_0, qf2_1, qcs_n, qcs_i, qcs_r, qcs_l, qst_n, qst_c, qJ_0, qJ_st, qJ_go, qfl_I, qfl_Z, qfl_L, qfl_R, qrI_i, qrL_l, qrV_v, qRcv_0, qRcv_s, eq_self, true_and, and_true, true_or, or_true, false_and, and_false, false_or, or_false, ite_true, if_true, if_false, Bool.true_or, Bool.false_or, Bool.or_false, beq_self_eq_true, Bool.false_eq_true, bX12_camp_0, bX12_camp_17, bX12_camp_31, bX12_camp_50, bX12_camp_59, bX12_camp_88, bX12_camp_90, bX12_camp_117, kX12_camp_0, kX12_camp_17, kX12_camp_31, kX12_camp_50, kX12_camp_59, kX12_camp_88, kX12_camp_90, kX12_camp_117, qK_139, qR_139_0, qK_140, qR_139_1, qK_141, qR_139_5, qK_142, qR_139_6, qK_143, qR_139_7, qK_144, qR_139_8, qK_145, qR_139_9, qK_146, qR_139_21, qK_147, qR_139_25, qK_148, qR_139_30, qK_149, qR_139_31, qK_150, qR_139_33, qK_151, qR_139_34, qK_152, qR_139_35, qK_153, qR_139_36, qK_154, qR_139_39, qK_155, qR_139_40, qK_156, qR_139_41, qK_157]
  refine qBI.of (m_begins w5 h5 x (most := 900) (by decide)) (by decide) (fun r σ1 g => ?_)
  by_cases hb : zbeg (aP A) x 900 = true
  · rw [if_pos hb] at g
    obtain ⟨rfl, p1, ta, f1⟩ := g
    simp (disch := omega) only [nI_leI, nI_ltI, nI_eq, nI_cl, qin_eq, nI_add, nI_mul, qb_z, qb_t, qb_f, nI_ne0', Nat.reduceAdd, Bool.false_eq_true, if_false, if_true, true_and, and_true, Nat.reduceEqDiff, not_true_eq_false, not_false_eq_true, false_implies, true_implies, ite_true, ite_false]
    have eY : yCamp A x = match zrdC (ztx (aP A).2 x.toInt.toNat) with
      | .inl e => (iI (-1), sS (sE (sP (sK A A.1) (0, (aP A).2)) (nI e.1, nI e.2)) 9)
      | .inr s => (nI (s.1 0 0), sS (sE (sP (sK A (s.1, s.2.1, none)) (0, (aP A).2)) (nI 0, iI (-1))) 0) := by
      unfold yCamp
      rw [if_neg (by rw [hb]; decide)]
    rw [eY]
    have hk : x.toInt.toNat ≤ (aP A).1 := by
      simp only [zbeg, zih, Bool.and_eq_true, decide_eq_true_eq] at hb
      omega
    have hB := ztx_W w5 hk
    generalize x.toInt.toNat = n at *
    generalize ztx (aP A).2 n = B at *
    refine qBV.of (m_plain σ1 (t := 1824) (by decide)) (by decide) (fun σ2 g2 => ?_)
    subst g2
    have hz := zplain_0 σ1
    have hd := zDr_0 σ1
    have p2 : zPd (zplain σ1 1824) B n 0 := p1.kp (fun j => hz.2.1 _ _ (by omega)) (fun j _ => hz.2.1 _ _ (by omega))
    have z30 : (zplain σ1 1824).1 140 1830 = iI (-1) := by rw [hz.1 _ (by decide) (by decide)]; rfl
    have fz := hz.2
    generalize zplain σ1 1824 = σ2 at p2 hd z30 fz ⊢
    -- from here on
    have e3 : ∀ a j, zKp a j → ¬ (a = 139 ∧ (j = 10 ∨ j = 17)) → (qwi σ2 139 20 (nI 0)).1 a j = σ.1 a j := fun a j hk hn => by
      unfold zKp at hk
      rw [qwi_1, if_neg (by omega), fz.1 _ _ (by omega), f1.1 _ _ (by unfold zPbg; omega)]
    have e4 : ∀ a j, (qwi σ2 139 20 (nI 0)).2 a j = σ.2 a j := fun a j => by rw [qwi_2, fz.2, f1.2]
    have t3 : (qwi σ2 139 20 (nI 0)).1 139 10 = nI 0 := by rw [qwi_1, if_neg (by decide), fz.1 _ _ (by omega)]; exact ta
    have y3 : (qwi σ2 139 20 (nI 0)).1 140 1830 = iI (-1) := by rw [qwi_1, if_neg (by omega)]; exact z30
    have r3 : zRef σ (qwi σ2 139 20 (nI 0)) := ((zRef.f f1 (fun a j h => by unfold zPbg at h; omega)).tr (zRef.f fz (fun a j h => by omega))).tr (zG.wi (show 139 ≤ 139 by decide))
    have p3 : zPd (qwi σ2 139 20 (nI 0)) B n 0 := p2.kp (fun j => by rw [qwi_1, if_neg (by omega)]) (fun j hj => by rw [qwi_1, if_neg (by omega)])
    have d3 : zDr (qwi σ2 139 20 (nI 0)) zC0 (fun _ => []) := hd.kp (fun j => by rw [qwi_1, if_neg (by omega)]) (fun j => rfl)
    have tp3 : zTP (qwi σ2 139 20 (nI 0)) false false := ⟨0, by rw [qwi_1, if_pos ⟨rfl, rfl⟩], by decide, by decide, by decide⟩
    generalize qwi σ2 139 20 (nI 0) = σ3 at e3 e4 t3 y3 r3 p3 d3 tp3 ⊢
    refine camp_loop (σ := σ3) hB _ x (fun σ4 e l2 l3 he hfl f4 => ?_) (fun σ4 s l2 l3 hs hf hfp hdr f4 => ?_) 1000 (zC0, fun _ => [], false, false) 0 σ3 none (Nat.zero_le _) (by have := hB.1; omega) zSW_0 p3 d3 tp3 zG.rf rfl
    · -- a fault
      have hk := zpCamp_k _ _ _ e he
      simp only [he]
      refine qV.go 30 [59, 90] ok_252 ?_
      simp only [qW_nop, qW_iconst, qW_bipush, qW_sipush, qW_iloadn, qW_aloadn, qW_istoren, qW_iinc, qW_iadd, qW_ifeq, qW_ifne, qW_icge, qW_goto, qW_getf, qW_iald, qW_lald, qW_iast, qW_last, qW_cv1_0, qW_cv2_0, qW_cv2_2, qW_cv3_0, qW_iret0, qW_putf0, Nat.reduceAdd, Nat.reduceMul, Nat.reduceBEq, Nat.reduceEqDiff, Nat.reduceLT, Nat.reduceLeDiff, Nat.zero_le, nI_add, nI_mul, nI_cl, qin_eq, qofI, qlg_0, qlg_s, qls_i0, qls_r0, qls_l0, qls_1, qls_2, qkl_i, qkl_r, qkl_l, qkl_n, qIsI_i, qIsL_l, qIsR_r, qint_i, qil_i, qil_r, qil_l, qf4_0, qf4_1, qf4_2, qf4_3, qf2_0, qf2_1, qcs_n, qcs_i, qcs_r, qcs_l, qst_n, qst_c, qJ_0, qJ_st, qJ_go, qfl_I, qfl_Z, qfl_L, qfl_R, qrI_i, qrL_l, qrV_v, qRcv_0, qRcv_s, eq_self, true_and, and_true, true_or, or_true, false_and, and_false, false_or, or_false, ite_true, if_true, if_false, Bool.true_or, Bool.false_or, Bool.or_false, beq_self_eq_true, Bool.false_eq_true, bX12_camp_0, bX12_camp_17, bX12_camp_31, bX12_camp_50, bX12_camp_59, bX12_camp_88, bX12_camp_90, bX12_camp_117, kX12_camp_0, kX12_camp_17, kX12_camp_31, kX12_camp_50, kX12_camp_59, kX12_camp_88, kX12_camp_90, kX12_camp_117, qK_139, qR_139_0, qK_140, qR_139_1, qK_141, qR_139_5, qK_142, qR_139_6, qK_143, qR_139_7, qK_144, qR_139_8, qK_145, qR_139_9, qK_146, qR_139_21, qK_147, qR_139_25, qK_148, qR_139_30, qK_149, qR_139_31, qK_150, qR_139_33, qK_151, qR_139_34, qK_152, qR_139_35, qK_153, qR_139_36, qK_154, qR_139_39, qK_155, qR_139_40, qK_156, qR_139_41, qK_157]
      rw [hfl.1]
      simp (disch := omega) only [nI_leI, nI_ltI, nI_eq, nI_cl, qin_eq, nI_add, nI_mul, qb_z, qb_t, qb_f, nI_ne0', Nat.reduceAdd, Bool.false_eq_true, if_false, if_true, true_and, and_true, Nat.reduceEqDiff, not_true_eq_false, not_false_eq_true, false_implies, true_implies, ite_true, ite_false]
      refine ⟨fun _ => ?_, fun h0 => by omega⟩
      refine qBI.of (m_taken σ4 _ hfl.1 hk.2) (by decide) (fun r σ5 g5 => ?_)
      obtain ⟨rfl, rfl⟩ := g5
      rw [if_neg (by omega), if_neg (by omega)]
      have r5 : zRef σ (qwi (qwi σ4 139 16 (nI e.1)) 139 2 (nI 9)) := ((r3.tr (zRf_q f4)).tr (zG.wi (show 139 ≤ 139 by decide))).tr (zG.wi (show 139 ≤ 139 by decide))
      have e5 : ∀ a j, zKp a j → ¬ (a = 139 ∧ (j = 10 ∨ j = 16 ∨ j = 17 ∨ j = 2)) → (qwi (qwi σ4 139 16 (nI e.1)) 139 2 (nI 9)).1 a j = σ.1 a j := fun a j hk hn => by
        rw [qwi_1, if_neg (by omega), qwi_1, if_neg (by omega), f4.1 _ _ (by unfold zKp at hk; unfold zPq zPw; omega), e3 _ _ hk (by omega)]
      have e6 : ∀ a j, zKq a j → (qwi (qwi σ4 139 16 (nI e.1)) 139 2 (nI 9)).2 a j = σ.2 a j := fun a j hk => by
        rw [qwi_2, qwi_2, f4.2 _ _ (by unfold zKq at hk; unfold zRq; omega), e4]
      refine ⟨rfl, hA.rd hW (fun a j hk _ hn => e5 a j hk hn) (fun a j hk _ => e6 a j hk) (h1.kp w1 (fun j hj => e5 _ _ (by unfold zKp; omega) (by omega)) (fun j hj => e6 _ _ (by unfold zKq; omega))) ?_ ?_ ?_ ?_, r5⟩
      · rw [qwi_1, if_neg (by decide), qwi_1, if_neg (by decide), f4.1 _ _ (by unfold zPq zPw; omega)]; exact t3
      · rw [qwi_1, if_neg (by decide), qwi_1, if_pos ⟨rfl, rfl⟩]
      · rw [qwi_1, if_neg (by decide), qwi_1, if_neg (by decide)]; exact hfl.2
      · rw [qwi_1, if_pos ⟨rfl, rfl⟩]
    · -- a camp
      have sw := zpCamp_W hB _ _ _ _ (Nat.zero_le _) zSW_0 hs
      simp only [hs]
      refine qV.go 30 [59, 90] ok_252 ?_
      simp only [qW_nop, qW_iconst, qW_bipush, qW_sipush, qW_iloadn, qW_aloadn, qW_istoren, qW_iinc, qW_iadd, qW_ifeq, qW_ifne, qW_icge, qW_goto, qW_getf, qW_iald, qW_lald, qW_iast, qW_last, qW_cv1_0, qW_cv2_0, qW_cv2_2, qW_cv3_0, qW_iret0, qW_putf0, Nat.reduceAdd, Nat.reduceMul, Nat.reduceBEq, Nat.reduceEqDiff, Nat.reduceLT, Nat.reduceLeDiff, Nat.zero_le, nI_add, nI_mul, nI_cl, qin_eq, qofI, qlg_0, qlg_s, qls_i0, qls_r0, qls_l0, qls_1, qls_2, qkl_i, qkl_r, qkl_l, qkl_n, qIsI_i, qIsL_l, qIsR_r, qint_i, qil_i, qil_r, qil_l, qf4_0, qf4_1, qf4_2, qf4_3, qf2_0, qf2_1, qcs_n, qcs_i, qcs_r, qcs_l, qst_n, qst_c, qJ_0, qJ_st, qJ_go, qfl_I, qfl_Z, qfl_L, qfl_R, qrI_i, qrL_l, qrV_v, qRcv_0, qRcv_s, eq_self, true_and, and_true, true_or, or_true, false_and, and_false, false_or, or_false, ite_true, if_true, if_false, Bool.true_or, Bool.false_or, Bool.or_false, beq_self_eq_true, Bool.false_eq_true, bX12_camp_0, bX12_camp_17, bX12_camp_31, bX12_camp_50, bX12_camp_59, bX12_camp_88, bX12_camp_90, bX12_camp_117, kX12_camp_0, kX12_camp_17, kX12_camp_31, kX12_camp_50, kX12_camp_59, kX12_camp_88, kX12_camp_90, kX12_camp_117, qK_139, qR_139_0, qK_140, qR_139_1, qK_141, qR_139_5, qK_142, qR_139_6, qK_143, qR_139_7, qK_144, qR_139_8, qK_145, qR_139_9, qK_146, qR_139_21, qK_147, qR_139_25, qK_148, qR_139_30, qK_149, qR_139_31, qK_150, qR_139_33, qK_151, qR_139_34, qK_152, qR_139_35, qK_153, qR_139_36, qK_154, qR_139_39, qK_155, qR_139_40, qK_156, qR_139_41, qK_157]
      rw [hf]
      simp (disch := omega) only [nI_leI, nI_ltI, nI_eq, nI_cl, qin_eq, nI_add, nI_mul, qb_z, qb_t, qb_f, nI_ne0', Nat.reduceAdd, Bool.false_eq_true, if_false, if_true, true_and, and_true, Nat.reduceEqDiff, not_true_eq_false, not_false_eq_true, false_implies, true_implies, ite_true, ite_false]
      -- copying
      refine qdown (n := 456) (P := fun q => qV 252 10 (.inl (zCall σ (nI (s.1 0 0), sS (sE (sP (sK A (s.1, s.2.1, none)) (0, (aP A).2)) (nI 0, iI (-1))) 0))) 59 [some (qr 139), some (qi x), some (qi l2), some (qi (nI q))] [] (zmv σ4 140 1824 0 q)) (fun q hq ih => ?_) 0 (Nat.zero_le _) |> fun hh => by rw [zmv_0] at hh; exact hh
      refine qV.go 30 [59, 90] ok_252 ?_
      simp only [qW_nop, qW_iconst, qW_bipush, qW_sipush, qW_iloadn, qW_aloadn, qW_istoren, qW_iinc, qW_iadd, qW_ifeq, qW_ifne, qW_icge, qW_goto, qW_getf, qW_iald, qW_lald, qW_iast, qW_last, qW_cv1_0, qW_cv2_0, qW_cv2_2, qW_cv3_0, qW_iret0, qW_putf0, Nat.reduceAdd, Nat.reduceMul, Nat.reduceBEq, Nat.reduceEqDiff, Nat.reduceLT, Nat.reduceLeDiff, Nat.zero_le, nI_add, nI_mul, nI_cl, qin_eq, qofI, qlg_0, qlg_s, qls_i0, qls_r0, qls_l0, qls_1, qls_2, qkl_i, qkl_r, qkl_l, qkl_n, qIsI_i, qIsL_l, qIsR_r, qint_i, qil_i, qil_r, qil_l, qf4_0, qf4_1, qf4_2, qf4_3, qf2_0, qf2_1, qcs_n, qcs_i, qcs_r, qcs_l, qst_n, qst_c, qJ_0, qJ_st, qJ_go, qfl_I, qfl_Z, qfl_L, qfl_R, qrI_i, qrL_l, qrV_v, qRcv_0, qRcv_s, eq_self, true_and, and_true, true_or, or_true, false_and, and_false, false_or, or_false, ite_true, if_true, if_false, Bool.true_or, Bool.false_or, Bool.or_false, beq_self_eq_true, Bool.false_eq_true, bX12_camp_0, bX12_camp_17, bX12_camp_31, bX12_camp_50, bX12_camp_59, bX12_camp_88, bX12_camp_90, bX12_camp_117, kX12_camp_0, kX12_camp_17, kX12_camp_31, kX12_camp_50, kX12_camp_59, kX12_camp_88, kX12_camp_90, kX12_camp_117, qK_139, qR_139_0, qK_140, qR_139_1, qK_141, qR_139_5, qK_142, qR_139_6, qK_143, qR_139_7, qK_144, qR_139_8, qK_145, qR_139_9, qK_146, qR_139_21, qK_147, qR_139_25, qK_148, qR_139_30, qK_149, qR_139_31, qK_150, qR_139_33, qK_151, qR_139_34, qK_152, qR_139_35, qK_153, qR_139_36, qK_154, qR_139_39, qK_155, qR_139_40, qK_156, qR_139_41, qK_157]
      simp (disch := omega) only [nI_leI, nI_ltI, nI_eq, nI_cl, qin_eq, nI_add, nI_mul, qb_z, qb_t, qb_f, nI_ne0', Nat.reduceAdd, Bool.false_eq_true, if_false, if_true, true_and, and_true, Nat.reduceEqDiff, not_true_eq_false, not_false_eq_true, false_implies, true_implies, ite_true, ite_false]
      refine ⟨fun g => ?_, fun g => ?_⟩
      · have eq : q = 456 := by omega
        subst eq
        refine qdown (n := 8) (P := fun q => qV 252 10 (.inl (zCall σ (nI (s.1 0 0), sS (sE (sP (sK A (s.1, s.2.1, none)) (0, (aP A).2)) (nI 0, iI (-1))) 0))) 90 [some (qr 139), some (qi x), some (qi l2), some (qi (nI q))] [] (zlm (zmv σ4 140 1824 0 456) 141 32 0 q)) (fun q hq ih2 => ?_) 0 (Nat.zero_le _) |> fun hh => by rw [zlm_0] at hh; exact hh
        refine qV.go 30 [59, 90] ok_252 ?_
        simp only [qW_nop, qW_iconst, qW_bipush, qW_sipush, qW_iloadn, qW_aloadn, qW_istoren, qW_iinc, qW_iadd, qW_ifeq, qW_ifne, qW_icge, qW_goto, qW_getf, qW_iald, qW_lald, qW_iast, qW_last, qW_cv1_0, qW_cv2_0, qW_cv2_2, qW_cv3_0, qW_iret0, qW_putf0, Nat.reduceAdd, Nat.reduceMul, Nat.reduceBEq, Nat.reduceEqDiff, Nat.reduceLT, Nat.reduceLeDiff, Nat.zero_le, nI_add, nI_mul, nI_cl, qin_eq, qofI, qlg_0, qlg_s, qls_i0, qls_r0, qls_l0, qls_1, qls_2, qkl_i, qkl_r, qkl_l, qkl_n, qIsI_i, qIsL_l, qIsR_r, qint_i, qil_i, qil_r, qil_l, qf4_0, qf4_1, qf4_2, qf4_3, qf2_0, qf2_1, qcs_n, qcs_i, qcs_r, qcs_l, qst_n, qst_c, qJ_0, qJ_st, qJ_go, qfl_I, qfl_Z, qfl_L, qfl_R, qrI_i, qrL_l, qrV_v, qRcv_0, qRcv_s, eq_self, true_and, and_true, true_or, or_true, false_and, and_false, false_or, or_false, ite_true, if_true, if_false, Bool.true_or, Bool.false_or, Bool.or_false, beq_self_eq_true, Bool.false_eq_true, bX12_camp_0, bX12_camp_17, bX12_camp_31, bX12_camp_50, bX12_camp_59, bX12_camp_88, bX12_camp_90, bX12_camp_117, kX12_camp_0, kX12_camp_17, kX12_camp_31, kX12_camp_50, kX12_camp_59, kX12_camp_88, kX12_camp_90, kX12_camp_117, qK_139, qR_139_0, qK_140, qR_139_1, qK_141, qR_139_5, qK_142, qR_139_6, qK_143, qR_139_7, qK_144, qR_139_8, qK_145, qR_139_9, qK_146, qR_139_21, qK_147, qR_139_25, qK_148, qR_139_30, qK_149, qR_139_31, qK_150, qR_139_33, qK_151, qR_139_34, qK_152, qR_139_35, qK_153, qR_139_36, qK_154, qR_139_39, qK_155, qR_139_40, qK_156, qR_139_41, qK_157]
        simp (disch := omega) only [nI_leI, nI_ltI, nI_eq, nI_cl, qin_eq, nI_add, nI_mul, qb_z, qb_t, qb_f, nI_ne0', Nat.reduceAdd, Bool.false_eq_true, if_false, if_true, true_and, and_true, Nat.reduceEqDiff, not_true_eq_false, not_false_eq_true, false_implies, true_implies, ite_true, ite_false]
        refine ⟨fun g => ?_, fun g => ?_⟩
        · have eq : q = 8 := by omega
          subst eq
          have m1 : ∀ j, j < 456 → (zlm (zmv σ4 140 1824 0 456) 141 32 0 8).1 140 j = σ4.1 140 (1824 + j) := fun j hj => by
            show (if 140 = 140 ∧ 0 ≤ j ∧ j < 0 + 456 then σ4.1 140 (1824 + (j - 0)) else σ4.1 140 j) = _
            rw [if_pos ⟨rfl, by omega, by omega⟩, Nat.sub_zero]
          have m2 : ∀ j, j < 8 → (zlm (zmv σ4 140 1824 0 456) 141 32 0 8).2 141 j = σ4.2 141 (32 + j) := fun j hj => by
            show (if 141 = 141 ∧ 0 ≤ j ∧ j < 0 + 8 then σ4.2 141 (32 + (j - 0)) else σ4.2 141 j) = _
            rw [if_pos ⟨rfl, by omega, by omega⟩, Nat.sub_zero]
          have m3 : ∀ a j, ¬ (a = 140 ∧ j < 456) → (zlm (zmv σ4 140 1824 0 456) 141 32 0 8).1 a j = σ4.1 a j := fun a j hn => if_neg (by omega)
          have m4 : ∀ a j, ¬ (a = 141 ∧ j < 8) → (zlm (zmv σ4 140 1824 0 456) 141 32 0 8).2 a j = σ4.2 a j := fun a j hn => if_neg (by omega)
          have r4 : zRef σ4 (zlm (zmv σ4 140 1824 0 456) 141 32 0 8) := ⟨fun a j hn => m3 a j (by omega), fun a j hn => m4 a j (by omega)⟩
          generalize zlm (zmv σ4 140 1824 0 456) 141 32 0 8 = σ5 at m1 m2 m3 m4 r4 ⊢
          have v0 : σ5.1 140 0 = nI (s.1 0 0) := by rw [m1 _ (by decide)]; exact hdr.1.1 0 (by decide)
          rw [v0]
          have fs : σ5.1 139 18 = nI 0 := by rw [m3 _ _ (by omega)]; exact hf
          refine qBI.of (m_taken σ5 _ fs (by decide)) (by decide) (fun r σ6 g6 => ?_)
          obtain ⟨rfl, rfl⟩ := g6
          rw [if_pos rfl, if_pos rfl]
          have e5 : ∀ a j, zKp a j → ¬ (a = 140 ∧ j < 456) → ¬ (a = 139 ∧ (j = 10 ∨ j = 16 ∨ j = 17 ∨ j = 2)) → (qwi (qwi σ5 139 16 (nI 0)) 139 2 (nI 0)).1 a j = σ.1 a j := fun a j hk h456 hn => by
            rw [qwi_1, if_neg (by omega), qwi_1, if_neg (by omega), m3 _ _ h456, f4.1 _ _ (by unfold zKp at hk; unfold zPq zPw; omega), e3 _ _ hk (by omega)]
          have e6 : ∀ a j, zKq a j → ¬ (a = 141 ∧ j < 8) → (qwi (qwi σ5 139 16 (nI 0)) 139 2 (nI 0)).2 a j = σ.2 a j := fun a j hk h8 => by
            rw [qwi_2, qwi_2, m4 _ _ h8, f4.2 _ _ (by unfold zKq at hk; unfold zRq; omega), e4]
          have at5 : ∀ j, (qwi (qwi σ5 139 16 (nI 0)) 139 2 (nI 0)).1 140 j = σ5.1 140 j := fun j => by rw [qwi_1, if_neg (by omega), qwi_1, if_neg (by omega)]
          refine ⟨rfl, hA.rd hW e5 e6 ⟨?_, fun b hb => ?_, ?_⟩ ?_ ?_ ?_ ?_, (((r3.tr (zRf_q f4)).tr r4).tr (zG.wi (show 139 ≤ 139 by decide))).tr (zG.wi (show 139 ≤ 139 by decide))⟩
          · exact hdr.1.to sw.1 (fun j hj => by rw [at5, show 456 * 0 + j = j by omega, m1 _ (by omega)])
          · have hb8 := sw.1.1
            have hb : b < s.1 0 0 := hb
            rw [qwi_2, qwi_2, m2 _ (by omega), show 32 + (8 * 0 + b) = 32 + b by omega]
            exact hdr.2.1 b hb
          · show (qwi (qwi σ5 139 16 (nI 0)) 139 2 (nI 0)).1 140 (456 * 0 + 6) = iI (-1)
            rw [at5, m1 _ (by decide), f4.1 _ _ (by unfold zPq zPw; omega)]
            exact y3
          · rw [qwi_1, if_neg (by decide), qwi_1, if_neg (by decide), m3 _ _ (by omega), f4.1 _ _ (by unfold zPq zPw; omega)]; exact t3
          · rw [qwi_1, if_neg (by decide), qwi_1, if_pos ⟨rfl, rfl⟩]
          · rw [qwi_1, if_neg (by decide), qwi_1, if_neg (by decide), m3 _ _ (by omega)]; exact hfp
          · rw [qwi_1, if_pos ⟨rfl, rfl⟩]
        · have := zlm_s (σ := zmv σ4 140 1824 0 456) (a := 141) (src := 32) (dst := 0) (k := q) (by omega)
          rw [Nat.zero_add] at this
          rw [this]
          exact ih2 (by omega)
      · have := zmv_s (σ := σ4) (a := 140) (src := 1824) (dst := 0) (k := q) (by omega)
        rw [Nat.zero_add] at this
        rw [this]
        exact ih (by omega)
  · rw [if_neg hb] at g
    obtain ⟨rfl, rfl⟩ := g
    simp (disch := omega) only [nI_leI, nI_ltI, nI_eq, nI_cl, qin_eq, nI_add, nI_mul, qb_z, qb_t, qb_f, nI_ne0', Nat.reduceAdd, Bool.false_eq_true, if_false, if_true, true_and, and_true, Nat.reduceEqDiff, not_true_eq_false, not_false_eq_true, false_implies, true_implies, ite_true, ite_false]
    have eY : yCamp A x = yNo A 1 := by unfold yCamp; rw [if_pos (by simpa using hb)]
    rw [eY]
    refine qBI.of (m_refuse _ _) (by decide) (fun r σ1 g => ?_)
    obtain ⟨rfl, rfl⟩ := g
    exact ⟨rfl, hA.st hW 1, zRef.st⟩
