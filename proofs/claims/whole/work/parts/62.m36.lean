/-! the reference: weeks -/
def zPy (a j : Nat) : Prop := zPw a j ∨ (a = 140 ∧ 1824 ≤ j ∧ j < 2280) ∨ a = 147 ∨ (a = 139 ∧ (j = 22 ∨ j = 23))
theorem zPw_y {σ σ' : qSg} (f : zF zPw σ σ') : zF zPy σ σ' := f.wk fun _ _ h => Or.inl h
theorem zPrw_y {r : Nat} (h1 : 1824 ≤ r) (h2 : r + 6 ≤ 2280) {σ σ' : qSg} (f : zF (zPrw r) σ σ') : zF zPy σ σ' := f.wk fun a j h => by
  unfold zPrw at h
  unfold zPy
  rcases h with h | ⟨h, h3⟩
  · exact Or.inl h
  · exact Or.inr (Or.inl ⟨h, by omega⟩)
/-- the draft of weeks -/
def zDw (σ : qSg) (s : zQ) : Prop := σ.1 140 1830 = nI s.2.1 ∧ σ.1 139 22 = nI s.2.2.2.1 ∧ σ.1 139 23 = nI s.2.2.1 ∧ (∀ i, i < s.2.2.2.1 → σ.1 147 i = nI (s.2.2.2.2 i)) ∧ ∀ k, k < s.2.1 → zRw σ (1912 + 6 * k) (s.1 k)
def zWfin (B : Nat → Nat) (n : Nat) (R : zR (zQ × Nat)) (σ : qSg) (r : Int32) (σ' : qSg) : Prop := zPo R r σ' (fun v => zPd σ' B n v.2 ∧ zDw σ' v.1) ∧ zF zPy σ σ'
set_option maxRecDepth 20000 in
theorem step_284 {σ σ1 : qSg} {B : Nat → Nat} {n q : Nat} {s' : zQ} {R : zR (zQ × Nat)} (hB : zBW B n) (hq : q ≤ n) (h : zPd σ1 B n q) (hd : zDw σ1 s') (f : zF zPy σ σ1) (hR : R = zbd (zpS B 59 q) fun e => .inr (s', e)) {lo : qLo} :
    qV 257 11 (.inl (zWfin B n R σ)) 284 (some (qr 139) :: lo) [] σ1 := by
  refine qV.go 30 [9999] ok_257 ?_
  simp only [qW_nop, qW_iconst, qW_bipush, qW_sipush, qW_ldcs, qW_iloadn, qW_iload, qW_aloadn, qW_istoren, qW_istore, qW_iinc, qW_iadd, qW_isub, qW_imul, qW_dup, qW_dup2, qW_ifeq, qW_iceq, qW_ifne, qW_icne, qW_iclt, qW_icge, qW_icgt, qW_goto, qW_getf, qW_iald, qW_iast, qW_cv1_2, qW_cv2_0, qW_cv3_0, qW_iret1, qW_putf0, Nat.reduceAdd, Nat.reduceMul, Nat.reduceBEq, Nat.reduceEqDiff, Nat.reduceLT, Nat.reduceLeDiff, Nat.zero_le, nI_add, nI_mul, nI_cl, qin_eq, qofI, qlg_0, qlg_s, qls_i0, qls_r0, qls_l0, qls_1, qls_2, qkl_i, qkl_r, qkl_l, qkl_n, qIsI_i, qIsL_l, qIsR_r, qint_i, qil_i, qil_r, qil_l, qf4_0, qf4_1, qf4_2, qf4_3, qf2_0, qf2_1, qcs_n, qcs_i, qcs_r, qcs_l, qst_n, qst_c, qJ_0, qJ_st, qJ_go, qfl_I, qfl_Z, qfl_L, qfl_R, qrI_i, qrL_l, qrV_v, qRcv_0, qRcv_s, eq_self, true_and, and_true, true_or, or_true, false_and, and_false, false_or, or_false, ite_true, if_true, if_false, Bool.true_or, Bool.false_or, Bool.or_false, beq_self_eq_true, Bool.false_eq_true, bX12_weekStep_0, bX12_weekStep_37, bX12_weekStep_41, bX12_weekStep_42, bX12_weekStep_61, bX12_weekStep_74, bX12_weekStep_80, bX12_weekStep_102, bX12_weekStep_122, bX12_weekStep_137, bX12_weekStep_138, bX12_weekStep_152, bX12_weekStep_175, bX12_weekStep_202, bX12_weekStep_227, bX12_weekStep_284, kX12_weekStep_0, kX12_weekStep_37, kX12_weekStep_41, kX12_weekStep_42, kX12_weekStep_61, kX12_weekStep_74, kX12_weekStep_80, kX12_weekStep_102, kX12_weekStep_122, kX12_weekStep_137, kX12_weekStep_138, kX12_weekStep_152, kX12_weekStep_175, kX12_weekStep_202, kX12_weekStep_227, kX12_weekStep_284, qK_139, qR_139_0, qK_140, qR_139_1, qK_141, qR_139_5, qK_142, qR_139_6, qK_143, qR_139_7, qK_144, qR_139_8, qK_145, qR_139_9, qK_146, qR_139_21, qK_147, qR_139_25, qK_148, qR_139_30, qK_149, qR_139_31, qK_150, qR_139_33, qK_151, qR_139_34, qK_152, qR_139_35, qK_153, qR_139_36, qK_154, qR_139_39, qK_155, qR_139_40, qK_156, qR_139_41, qK_157]
  refine qBI.of (m_wantSign hB hq h (c := 59) (by decide)) (by decide) (fun x σ2 g => ?_)
  obtain ⟨g, f2⟩ := g
  have F2 := f.tr (zPw_y f2)
  rcases zPo_c g with ⟨e, he, rfl, hf⟩ | ⟨v, hv, rfl, v1⟩
  · exact ⟨Or.inl rfl, zPo_l (by rw [hR, he]; rfl) rfl hf, F2⟩
  · refine ⟨Or.inr rfl, zPo_r (a := (s', v)) (by rw [hR, hv]; rfl) rfl ⟨v1, ?_⟩, F2⟩
    obtain ⟨d1, d2, d3, d4, d5⟩ := hd
    refine ⟨?_, ?_, ?_, fun i hi => ?_, fun k hk => (d5 k hk).w f2⟩
    · rw [zPw_at f2]; exact d1
    · rw [f2.1 _ _ (by unfold zPw; omega)]; exact d2
    · rw [f2.1 _ _ (by unfold zPw; omega)]; exact d3
    · rw [f2.1 _ _ (by unfold zPw; omega)]; exact d4 i hi
set_option maxHeartbeats 1000000 in
set_option maxRecDepth 20000 in
theorem step_122 {σ : qSg} {B : Nat → Nat} {N : Nat → List Nat} {C : zC} {n p : Nat} {s : zQ} (hB : zBW B n) (hp : p ≤ n) (hs : zQW (C 0 0) (C 0 2 * C 0 3) s) (h : zPd σ B n p) (hd : zDw σ s) (hC : zM σ 0 C) (hW : zW C) (hb : zMN σ 0 (C 0 0) N) (hN : zNW (C 0 0) N) (hg : zpBegin B s p = none) {o : Bool} (ho : o = decide (tkY B p = 15 ∨ tkY B p = 16)) {l5 : Option qPV} :
    qV 257 11 (.inl (zWfin B n (zpStep B N (C 0 0) (C 0 2 * C 0 3) s p) σ)) 122 [some (qr 139), some (qi (nI (tkY B p))), some (qi (nI s.2.1)), some (qi (nI (1912 + 6 * s.2.1))), some (qi (qb o)), l5] [] σ := by
  have hn := zpBegin_n hg
  have s30 := hs.1
  have s2 := hs.2.1
  have s3 := hs.2.2.1
  have sop := hs.2.2.2.1
  have ht := tkE_spec hB hp
  have hc := zSW_cells hW
  have hn59 : s.2.1 ≤ 59 := by
    by_cases e : tkY B p = 17
    · have := hn.2.1 e; omega
    · have := hn.2.2.1 e; omega
  obtain ⟨d1, d2, d3, d4, d5⟩ := hd
  have eR : zpStep B N (C 0 0) (C 0 2 * C 0 3) s p = zbd (zpRow B N (C 0 0) (C 0 2 * C 0 3) (tkY B p) (tkE B p)) fun r => zbd (zpS B 59 r.2) fun q => .inr (zpush s (tkY B p) r.1, q) := by
    unfold zpStep
    rw [hg]
  rw [eR]
  have a138 : qV 257 11 (.inl (zWfin B n (zbd (zpRow B N (C 0 0) (C 0 2 * C 0 3) (tkY B p) (tkE B p)) fun r => zbd (zpS B 59 r.2) fun q => .inr (zpush s (tkY B p) r.1, q)) σ)) 138 [some (qr 139), some (qi (nI (tkY B p))), some (qi (nI s.2.1)), some (qi (nI (1912 + 6 * s.2.1))), some (qi (qb o)), l5] [qi (nI (if tkY B p = 17 then 0 else 1)), qi (nI s.2.2.1), qr 139] σ := by
    refine qV.go 30 [152, 175, 202, 227, 284] ok_257 ?_
    simp only [qW_nop, qW_iconst, qW_bipush, qW_sipush, qW_ldcs, qW_iloadn, qW_iload, qW_aloadn, qW_istoren, qW_istore, qW_iinc, qW_iadd, qW_isub, qW_imul, qW_dup, qW_dup2, qW_ifeq, qW_iceq, qW_ifne, qW_icne, qW_iclt, qW_icge, qW_icgt, qW_goto, qW_getf, qW_iald, qW_iast, qW_cv1_2, qW_cv2_0, qW_cv3_0, qW_iret1, qW_putf0, Nat.reduceAdd, Nat.reduceMul, Nat.reduceBEq, Nat.reduceEqDiff, Nat.reduceLT, Nat.reduceLeDiff, Nat.zero_le, nI_add, nI_mul, nI_cl, qin_eq, qofI, qlg_0, qlg_s, qls_i0, qls_r0, qls_l0, qls_1, qls_2, qkl_i, qkl_r, qkl_l, qkl_n, qIsI_i, qIsL_l, qIsR_r, qint_i, qil_i, qil_r, qil_l, qf4_0, qf4_1, qf4_2, qf4_3, qf2_0, qf2_1, qcs_n, qcs_i, qcs_r, qcs_l, qst_n, qst_c, qJ_0, qJ_st, qJ_go, qfl_I, qfl_Z, qfl_L, qfl_R, qrI_i, qrL_l, qrV_v, qRcv_0, qRcv_s, eq_self, true_and, and_true, true_or, or_true, false_and, and_false, false_or, or_false, ite_true, if_true, if_false, Bool.true_or, Bool.false_or, Bool.or_false, beq_self_eq_true, Bool.false_eq_true, bX12_weekStep_0, bX12_weekStep_37, bX12_weekStep_41, bX12_weekStep_42, bX12_weekStep_61, bX12_weekStep_74, bX12_weekStep_80, bX12_weekStep_102, bX12_weekStep_122, bX12_weekStep_137, bX12_weekStep_138, bX12_weekStep_152, bX12_weekStep_175, bX12_weekStep_202, bX12_weekStep_227, bX12_weekStep_284, kX12_weekStep_0, kX12_weekStep_37, kX12_weekStep_41, kX12_weekStep_42, kX12_weekStep_61, kX12_weekStep_74, kX12_weekStep_80, kX12_weekStep_102, kX12_weekStep_122, kX12_weekStep_137, kX12_weekStep_138, kX12_weekStep_152, kX12_weekStep_175, kX12_weekStep_202, kX12_weekStep_227, kX12_weekStep_284, qK_139, qR_139_0, qK_140, qR_139_1, qK_141, qR_139_5, qK_142, qR_139_6, qK_143, qR_139_7, qK_144, qR_139_8, qK_145, qR_139_9, qK_146, qR_139_21, qK_147, qR_139_25, qK_148, qR_139_30, qK_149, qR_139_31, qK_150, qR_139_33, qK_151, qR_139_34, qK_152, qR_139_35, qK_153, qR_139_36, qK_154, qR_139_39, qK_155, qR_139_40, qK_156, qR_139_41, qK_157]
    simp (disch := omega) only [nI_leI, nI_ltI, nI_eq, nI_cl, qin_eq, nI_add, nI_mul, qb_z, qb_t, qb_f, nI_ne0', Nat.reduceAdd, Bool.false_eq_true, if_false, if_true, true_and, and_true, Nat.reduceEqDiff, not_true_eq_false, not_false_eq_true, false_implies, true_implies, ite_true, ite_false]
    -- the row made empty
    refine qdown (n := 6) (P := fun i => 1 ≤ i → ∀ σ1, σ1.1 140 (1912 + 6 * s.2.1) = nI (tkY B p) → (∀ j, 1 ≤ j → j < i → σ1.1 140 (1912 + 6 * s.2.1 + j) = nI 0) → σ1.1 139 23 = nI (s.2.2.1 + if tkY B p = 17 then 0 else 1) → zF (fun a j => (a = 140 ∧ 1912 + 6 * s.2.1 ≤ j ∧ j < 1918 + 6 * s.2.1) ∨ (a = 139 ∧ j = 23)) σ σ1 → qV 257 11 (.inl (zWfin B n (zbd (zpRow B N (C 0 0) (C 0 2 * C 0 3) (tkY B p) (tkE B p)) fun r => zbd (zpS B 59 r.2) fun q => .inr (zpush s (tkY B p) r.1, q)) σ)) 152 [some (qr 139), some (qi (nI (tkY B p))), some (qi (nI s.2.1)), some (qi (nI (1912 + 6 * s.2.1))), some (qi (qb o)), some (qi (nI i))] [] σ1) (fun i hi ih => ?_) 1 (by decide) (Nat.le_refl _) _ (by rw [qwi_1, if_pos ⟨rfl, rfl⟩]) (fun j h1 h2 => by omega) (by rw [qwi_1, if_neg (by omega), qwi_1, if_pos ⟨rfl, rfl⟩]) ((zF.wi (Or.inr ⟨rfl, rfl⟩)).tr (zF.wi (Or.inl ⟨rfl, by omega, by omega⟩)))
    intro h1i σ1 b1 b2 b3 f1
    refine qV.go 30 [152, 175, 202, 227, 284] ok_257 ?_
    simp only [qW_nop, qW_iconst, qW_bipush, qW_sipush, qW_ldcs, qW_iloadn, qW_iload, qW_aloadn, qW_istoren, qW_istore, qW_iinc, qW_iadd, qW_isub, qW_imul, qW_dup, qW_dup2, qW_ifeq, qW_iceq, qW_ifne, qW_icne, qW_iclt, qW_icge, qW_icgt, qW_goto, qW_getf, qW_iald, qW_iast, qW_cv1_2, qW_cv2_0, qW_cv3_0, qW_iret1, qW_putf0, Nat.reduceAdd, Nat.reduceMul, Nat.reduceBEq, Nat.reduceEqDiff, Nat.reduceLT, Nat.reduceLeDiff, Nat.zero_le, nI_add, nI_mul, nI_cl, qin_eq, qofI, qlg_0, qlg_s, qls_i0, qls_r0, qls_l0, qls_1, qls_2, qkl_i, qkl_r, qkl_l, qkl_n, qIsI_i, qIsL_l, qIsR_r, qint_i, qil_i, qil_r, qil_l, qf4_0, qf4_1, qf4_2, qf4_3, qf2_0, qf2_1, qcs_n, qcs_i, qcs_r, qcs_l, qst_n, qst_c, qJ_0, qJ_st, qJ_go, qfl_I, qfl_Z, qfl_L, qfl_R, qrI_i, qrL_l, qrV_v, qRcv_0, qRcv_s, eq_self, true_and, and_true, true_or, or_true, false_and, and_false, false_or, or_false, ite_true, if_true, if_false, Bool.true_or, Bool.false_or, Bool.or_false, beq_self_eq_true, Bool.false_eq_true, bX12_weekStep_0, bX12_weekStep_37, bX12_weekStep_41, bX12_weekStep_42, bX12_weekStep_61, bX12_weekStep_74, bX12_weekStep_80, bX12_weekStep_102, bX12_weekStep_122, bX12_weekStep_137, bX12_weekStep_138, bX12_weekStep_152, bX12_weekStep_175, bX12_weekStep_202, bX12_weekStep_227, bX12_weekStep_284, kX12_weekStep_0, kX12_weekStep_37, kX12_weekStep_41, kX12_weekStep_42, kX12_weekStep_61, kX12_weekStep_74, kX12_weekStep_80, kX12_weekStep_102, kX12_weekStep_122, kX12_weekStep_137, kX12_weekStep_138, kX12_weekStep_152, kX12_weekStep_175, kX12_weekStep_202, kX12_weekStep_227, kX12_weekStep_284, qK_139, qR_139_0, qK_140, qR_139_1, qK_141, qR_139_5, qK_142, qR_139_6, qK_143, qR_139_7, qK_144, qR_139_8, qK_145, qR_139_9, qK_146, qR_139_21, qK_147, qR_139_25, qK_148, qR_139_30, qK_149, qR_139_31, qK_150, qR_139_33, qK_151, qR_139_34, qK_152, qR_139_35, qK_153, qR_139_36, qK_154, qR_139_39, qK_155, qR_139_40, qK_156, qR_139_41, qK_157]
    simp (disch := omega) only [nI_leI, nI_ltI, nI_eq, nI_cl, qin_eq, nI_add, nI_mul, qb_z, qb_t, qb_f, nI_ne0', Nat.reduceAdd, Bool.false_eq_true, if_false, if_true, true_and, and_true, Nat.reduceEqDiff, not_true_eq_false, not_false_eq_true, false_implies, true_implies, ite_true, ite_false]
    refine ⟨fun g => ?_, fun g => ?_⟩
    · have e6 : i = 6 := by omega
      subst e6
      refine qV.go 30 [202, 227, 284] ok_257 ?_
      simp only [qW_nop, qW_iconst, qW_bipush, qW_sipush, qW_ldcs, qW_iloadn, qW_iload, qW_aloadn, qW_istoren, qW_istore, qW_iinc, qW_iadd, qW_isub, qW_imul, qW_dup, qW_dup2, qW_ifeq, qW_iceq, qW_ifne, qW_icne, qW_iclt, qW_icge, qW_icgt, qW_goto, qW_getf, qW_iald, qW_iast, qW_cv1_2, qW_cv2_0, qW_cv3_0, qW_iret1, qW_putf0, Nat.reduceAdd, Nat.reduceMul, Nat.reduceBEq, Nat.reduceEqDiff, Nat.reduceLT, Nat.reduceLeDiff, Nat.zero_le, nI_add, nI_mul, nI_cl, qin_eq, qofI, qlg_0, qlg_s, qls_i0, qls_r0, qls_l0, qls_1, qls_2, qkl_i, qkl_r, qkl_l, qkl_n, qIsI_i, qIsL_l, qIsR_r, qint_i, qil_i, qil_r, qil_l, qf4_0, qf4_1, qf4_2, qf4_3, qf2_0, qf2_1, qcs_n, qcs_i, qcs_r, qcs_l, qst_n, qst_c, qJ_0, qJ_st, qJ_go, qfl_I, qfl_Z, qfl_L, qfl_R, qrI_i, qrL_l, qrV_v, qRcv_0, qRcv_s, eq_self, true_and, and_true, true_or, or_true, false_and, and_false, false_or, or_false, ite_true, if_true, if_false, Bool.true_or, Bool.false_or, Bool.or_false, beq_self_eq_true, Bool.false_eq_true, bX12_weekStep_0, bX12_weekStep_37, bX12_weekStep_41, bX12_weekStep_42, bX12_weekStep_61, bX12_weekStep_74, bX12_weekStep_80, bX12_weekStep_102, bX12_weekStep_122, bX12_weekStep_137, bX12_weekStep_138, bX12_weekStep_152, bX12_weekStep_175, bX12_weekStep_202, bX12_weekStep_227, bX12_weekStep_284, kX12_weekStep_0, kX12_weekStep_37, kX12_weekStep_41, kX12_weekStep_42, kX12_weekStep_61, kX12_weekStep_74, kX12_weekStep_80, kX12_weekStep_102, kX12_weekStep_122, kX12_weekStep_137, kX12_weekStep_138, kX12_weekStep_152, kX12_weekStep_175, kX12_weekStep_202, kX12_weekStep_227, kX12_weekStep_284, qK_139, qR_139_0, qK_140, qR_139_1, qK_141, qR_139_5, qK_142, qR_139_6, qK_143, qR_139_7, qK_144, qR_139_8, qK_145, qR_139_9, qK_146, qR_139_21, qK_147, qR_139_25, qK_148, qR_139_30, qK_149, qR_139_31, qK_150, qR_139_33, qK_151, qR_139_34, qK_152, qR_139_35, qK_153, qR_139_36, qK_154, qR_139_39, qK_155, qR_139_40, qK_156, qR_139_41, qK_157]
      have c1 : σ1.1 140 1830 = nI s.2.1 := by rw [f1.1 _ _ (by omega)]; exact d1
      rw [c1]
      simp (disch := omega) only [nI_leI, nI_ltI, nI_eq, nI_cl, qin_eq, nI_add, nI_mul, qb_z, qb_t, qb_f, nI_ne0', Nat.reduceAdd, Bool.false_eq_true, if_false, if_true, true_and, and_true, Nat.reduceEqDiff, not_true_eq_false, not_false_eq_true, false_implies, true_implies, ite_true, ite_false]
      -- the state ahead of the order
      have w2 : zRw (qwi σ1 140 1830 (nI (s.2.1 + 1))) (1912 + 6 * s.2.1) (zr6 (tkY B p) 0 0 0 0) := by
        intro j hj
        rw [qwi_1, if_neg (by omega)]
        by_cases j0 : j = 0
        · subst j0; exact b1
        · rw [b2 j (by omega) (by omega)]
          rcases (show j = 1 ∨ j = 2 ∨ j = 3 ∨ j = 4 ∨ j = 5 by omega) with rfl | rfl | rfl | rfl | rfl <;> rfl
      have f2 : zF zPy σ (qwi σ1 140 1830 (nI (s.2.1 + 1))) := (f1.wk fun a j hh => by unfold zPy; omega).tr (zF.wi (Or.inr (Or.inl ⟨rfl, by decide, by decide⟩)))
      have k2 : ∀ a j, ¬ (a = 140 ∧ (j = 1830 ∨ (1912 + 6 * s.2.1 ≤ j ∧ j < 1918 + 6 * s.2.1))) → ¬ (a = 139 ∧ j = 23) → (qwi σ1 140 1830 (nI (s.2.1 + 1))).1 a j = σ.1 a j := fun a j h1 h2 => by
        rw [qwi_1, if_neg (by omega), f1.1 _ _ (by omega)]
      have e2 : (qwi σ1 140 1830 (nI (s.2.1 + 1))).2 = σ.2 := f1.2
      have n2 : (qwi σ1 140 1830 (nI (s.2.1 + 1))).1 140 1830 = nI (s.2.1 + 1) := by rw [qwi_1, if_pos ⟨rfl, rfl⟩]
      have m2 : (qwi σ1 140 1830 (nI (s.2.1 + 1))).1 139 23 = nI (s.2.2.1 + if tkY B p = 17 then 0 else 1) := by rw [qwi_1, if_neg (by omega)]; exact b3
      generalize qwi σ1 140 1830 (nI (s.2.1 + 1)) = σ2 at w2 f2 k2 e2 n2 m2 ⊢
      have p2 : zPd σ2 B n p := h.kp (fun j => k2 _ _ (by omega) (by omega)) (fun j hj => k2 _ _ (by omega) (by omega))
      refine qBV.of (m_next hB hp p2) (by decide) (fun σ3 g3 => ?_)
      obtain ⟨p3, f3⟩ := g3
      have C3 : zM σ3 0 C := hC.keep hW (fun j hj => by rw [zPa_at f3, k2 _ _ (by omega) (by omega)])
      have b3' : zMN σ3 0 (C 0 0) N := fun b hb1 => by rw [f3.2, e2]; exact hb b hb1
      refine qBI.of (m_weekOrder hB ht.2.2.1 p3 C3 hW b3' hN hn.1 (by omega) (by omega) (w2.w (zPa_w f3))) (by decide) (fun x σ4 g4 => ?_)
      obtain ⟨g4, f4⟩ := g4
      have F4 := (f2.tr (zPw_y (zPa_w f3))).tr (zPrw_y (by omega) (by omega) f4)
      rcases zPo_c g4 with ⟨e, he, rfl, hf⟩ | ⟨v, hv, rfl, p4, w4⟩
      · simp (disch := omega) only [nI_leI, nI_ltI, nI_eq, nI_cl, qin_eq, nI_add, nI_mul, qb_z, qb_t, qb_f, nI_ne0', Nat.reduceAdd, Bool.false_eq_true, if_false, if_true, true_and, and_true, Nat.reduceEqDiff, not_true_eq_false, not_false_eq_true, false_implies, true_implies, ite_true, ite_false]
        exact ⟨zPo_l (by rw [he]; rfl) rfl hf, F4⟩
      · simp (disch := omega) only [nI_leI, nI_ltI, nI_eq, nI_cl, qin_eq, nI_add, nI_mul, qb_z, qb_t, qb_f, nI_ne0', Nat.reduceAdd, Bool.false_eq_true, if_false, if_true, true_and, and_true, Nat.reduceEqDiff, not_true_eq_false, not_false_eq_true, false_implies, true_implies, ite_true, ite_false]
        have rg := zpRow_inr hB ht.2.2.1 hc.1 hn.1 hv
        simp only [hv, zbd_r]
        have k4 : ∀ a j, ¬ (a = 140 ∧ (j = 1830 ∨ (1912 + 6 * s.2.1 ≤ j ∧ j < 1918 + 6 * s.2.1))) → ¬ (a = 139 ∧ j = 23) → ¬ zPw a j → σ4.1 a j = σ.1 a j := fun a j h1 h2 h3 => by
          rw [f4.1 _ _ (fun hh => hh.elim h3 (fun hh => h1 ⟨hh.1, by omega⟩)), f3.1 _ _ (by unfold zPa; unfold zPw at h3; omega), k2 _ _ h1 h2]
        have n4 : σ4.1 140 1830 = nI (s.2.1 + 1) := by rw [f4.1 _ _ (by unfold zPrw zPw; omega), zPa_at f3]; exact n2
        have m4 : σ4.1 139 23 = nI (s.2.2.1 + if tkY B p = 17 then 0 else 1) := by rw [f4.1 _ _ (by unfold zPrw zPw; omega), f3.1 _ _ (by unfold zPa; omega)]; exact m2
        have dd4 : σ4.1 139 22 = nI s.2.2.2.1 := by rw [k4 _ _ (by omega) (by omega) (by unfold zPw; omega)]; exact d2
        have o4 : ∀ i, i < s.2.2.2.1 → σ4.1 147 i = nI (s.2.2.2.2 i) := fun i hi => by rw [k4 _ _ (by omega) (by omega) (by unfold zPw; omega)]; exact d4 i hi
        have r4 : ∀ k, k < s.2.1 → zRw σ4 (1912 + 6 * k) (s.1 k) := fun k hk j hj => by rw [k4 _ _ (by omega) (by omega) (by unfold zPw; omega)]; exact d5 k hk j hj
        clear b1 b2 b3 f1 ih
        by_cases e15 : tkY B p = 15 ∨ tkY B p = 16
        · -- one begun
          have d3' : s.2.2.2.1 < 3 := by have := hn.2.2.2 e15; omega
          rw [decide_eq_true e15] at ho
          subst ho
          rw [if_neg (by omega)] at m4
          have eP : zpush s (tkY B p) v.1 = ((fun i j => if i = s.2.1 then v.1 j else s.1 i j), s.2.1 + 1, s.2.2.1 + 1, s.2.2.2.1 + 1, fun i => if i = s.2.2.2.1 then s.2.1 else s.2.2.2.2 i) := by
            unfold zpush
            rw [if_pos e15]
          rw [eP]
          refine qV.go 30 [284] ok_257 ?_
          simp only [qW_nop, qW_iconst, qW_bipush, qW_sipush, qW_ldcs, qW_iloadn, qW_iload, qW_aloadn, qW_istoren, qW_istore, qW_iinc, qW_iadd, qW_isub, qW_imul, qW_dup, qW_dup2, qW_ifeq, qW_iceq, qW_ifne, qW_icne, qW_iclt, qW_icge, qW_icgt, qW_goto, qW_getf, qW_iald, qW_iast, qW_cv1_2, qW_cv2_0, qW_cv3_0, qW_iret1, qW_putf0, Nat.reduceAdd, Nat.reduceMul, Nat.reduceBEq, Nat.reduceEqDiff, Nat.reduceLT, Nat.reduceLeDiff, Nat.zero_le, nI_add, nI_mul, nI_cl, qin_eq, qofI, qlg_0, qlg_s, qls_i0, qls_r0, qls_l0, qls_1, qls_2, qkl_i, qkl_r, qkl_l, qkl_n, qIsI_i, qIsL_l, qIsR_r, qint_i, qil_i, qil_r, qil_l, qf4_0, qf4_1, qf4_2, qf4_3, qf2_0, qf2_1, qcs_n, qcs_i, qcs_r, qcs_l, qst_n, qst_c, qJ_0, qJ_st, qJ_go, qfl_I, qfl_Z, qfl_L, qfl_R, qrI_i, qrL_l, qrV_v, qRcv_0, qRcv_s, eq_self, true_and, and_true, true_or, or_true, false_and, and_false, false_or, or_false, ite_true, if_true, if_false, Bool.true_or, Bool.false_or, Bool.or_false, beq_self_eq_true, Bool.false_eq_true, bX12_weekStep_0, bX12_weekStep_37, bX12_weekStep_41, bX12_weekStep_42, bX12_weekStep_61, bX12_weekStep_74, bX12_weekStep_80, bX12_weekStep_102, bX12_weekStep_122, bX12_weekStep_137, bX12_weekStep_138, bX12_weekStep_152, bX12_weekStep_175, bX12_weekStep_202, bX12_weekStep_227, bX12_weekStep_284, kX12_weekStep_0, kX12_weekStep_37, kX12_weekStep_41, kX12_weekStep_42, kX12_weekStep_61, kX12_weekStep_74, kX12_weekStep_80, kX12_weekStep_102, kX12_weekStep_122, kX12_weekStep_137, kX12_weekStep_138, kX12_weekStep_152, kX12_weekStep_175, kX12_weekStep_202, kX12_weekStep_227, kX12_weekStep_284, qK_139, qR_139_0, qK_140, qR_139_1, qK_141, qR_139_5, qK_142, qR_139_6, qK_143, qR_139_7, qK_144, qR_139_8, qK_145, qR_139_9, qK_146, qR_139_21, qK_147, qR_139_25, qK_148, qR_139_30, qK_149, qR_139_31, qK_150, qR_139_33, qK_151, qR_139_34, qK_152, qR_139_35, qK_153, qR_139_36, qK_154, qR_139_39, qK_155, qR_139_40, qK_156, qR_139_41, qK_157]
          rw [dd4]
          have d5' : (qwi σ4 147 s.2.2.2.1 (nI s.2.1)).1 139 22 = nI s.2.2.2.1 := by rw [qwi_1, if_neg (by omega)]; exact dd4
          have q5 : (qb true = 0) = False := by rw [qb_z]; simp
          simp only [q5, d5', nI_add]
          simp (disch := omega) only [nI_leI, nI_ltI, nI_eq, nI_cl, qin_eq, nI_add, nI_mul, qb_z, qb_t, qb_f, nI_ne0', Nat.reduceAdd, Bool.false_eq_true, if_false, if_true, true_and, and_true, Nat.reduceEqDiff, not_true_eq_false, not_false_eq_true, false_implies, true_implies, ite_true, ite_false]
          refine ⟨fun _ => ?_, fun hh => by omega⟩
          refine step_284 (s' := ((fun i j => if i = s.2.1 then v.1 j else s.1 i j), s.2.1 + 1, s.2.2.1 + 1, s.2.2.2.1 + 1, fun i => if i = s.2.2.2.1 then s.2.1 else s.2.2.2.2 i)) hB rg.2.1 (p4.kp (fun j => by rw [qwi_1, if_neg (by omega), qwi_1, if_neg (by omega)]) (fun j hj => by rw [qwi_1, if_neg (by omega), qwi_1, if_neg (by omega)])) ⟨?_, ?_, ?_, fun i hi => ?_, fun k hk j hj => ?_⟩ ((F4.tr (zF.wi (Or.inr (Or.inr (Or.inl rfl))))).tr (zF.wi (Or.inr (Or.inr (Or.inr ⟨rfl, Or.inl rfl⟩))))) rfl
          · rw [qwi_1, if_neg (by omega), qwi_1, if_neg (by omega)]; exact n4
          · rw [qwi_1, if_pos ⟨rfl, rfl⟩, d5', nI_add]
          · rw [qwi_1, if_neg (by omega), qwi_1, if_neg (by omega)]; exact m4
          · show _ = nI (if i = s.2.2.2.1 then s.2.1 else s.2.2.2.2 i)
            rw [qwi_1, if_neg (by omega), qwi_1]
            by_cases ei : i = s.2.2.2.1
            · rw [if_pos ⟨rfl, ei⟩, if_pos ei]
            · rw [if_neg (by omega), if_neg ei]
              exact o4 i (by have hi : i < s.2.2.2.1 + 1 := hi; omega)
          · show _ = nI (if k = s.2.1 then v.1 j else s.1 k j)
            rw [qwi_1, if_neg (by omega), qwi_1, if_neg (by omega)]
            by_cases ek : k = s.2.1
            · subst ek
              rw [if_pos rfl]
              exact w4 j hj
            · rw [if_neg ek]
              exact r4 k (by have hk : k < s.2.1 + 1 := hk; omega) j hj
        · rw [decide_eq_false e15] at ho
          subst ho
          by_cases e17 : tkY B p = 17
          · -- an end
            have dp : 0 < s.2.2.2.1 := by have := hn.2.1 e17; omega
            obtain ⟨z1, -, -⟩ := sop (s.2.2.2.1 - 1) (by omega)
            rw [if_pos e17] at m4
            have eP : zpush s (tkY B p) v.1 = ((fun i j => if i = s.2.1 ∧ j = 4 then s.2.2.2.2 (s.2.2.2.1 - 1) else if i = s.2.2.2.2 (s.2.2.2.1 - 1) ∧ j = 4 then s.2.1 else if i = s.2.1 then v.1 j else s.1 i j), s.2.1 + 1, s.2.2.1, s.2.2.2.1 - 1, s.2.2.2.2) := by
              unfold zpush
              rw [if_neg e15, if_pos e17]
            rw [eP]
            have oz := o4 (s.2.2.2.1 - 1) (by omega)
            refine qV.go 30 [284] ok_257 ?_
            simp only [qW_nop, qW_iconst, qW_bipush, qW_sipush, qW_ldcs, qW_iloadn, qW_iload, qW_aloadn, qW_istoren, qW_istore, qW_iinc, qW_iadd, qW_isub, qW_imul, qW_dup, qW_dup2, qW_ifeq, qW_iceq, qW_ifne, qW_icne, qW_iclt, qW_icge, qW_icgt, qW_goto, qW_getf, qW_iald, qW_iast, qW_cv1_2, qW_cv2_0, qW_cv3_0, qW_iret1, qW_putf0, Nat.reduceAdd, Nat.reduceMul, Nat.reduceBEq, Nat.reduceEqDiff, Nat.reduceLT, Nat.reduceLeDiff, Nat.zero_le, nI_add, nI_mul, nI_cl, qin_eq, qofI, qlg_0, qlg_s, qls_i0, qls_r0, qls_l0, qls_1, qls_2, qkl_i, qkl_r, qkl_l, qkl_n, qIsI_i, qIsL_l, qIsR_r, qint_i, qil_i, qil_r, qil_l, qf4_0, qf4_1, qf4_2, qf4_3, qf2_0, qf2_1, qcs_n, qcs_i, qcs_r, qcs_l, qst_n, qst_c, qJ_0, qJ_st, qJ_go, qfl_I, qfl_Z, qfl_L, qfl_R, qrI_i, qrL_l, qrV_v, qRcv_0, qRcv_s, eq_self, true_and, and_true, true_or, or_true, false_and, and_false, false_or, or_false, ite_true, if_true, if_false, Bool.true_or, Bool.false_or, Bool.or_false, beq_self_eq_true, Bool.false_eq_true, bX12_weekStep_0, bX12_weekStep_37, bX12_weekStep_41, bX12_weekStep_42, bX12_weekStep_61, bX12_weekStep_74, bX12_weekStep_80, bX12_weekStep_102, bX12_weekStep_122, bX12_weekStep_137, bX12_weekStep_138, bX12_weekStep_152, bX12_weekStep_175, bX12_weekStep_202, bX12_weekStep_227, bX12_weekStep_284, kX12_weekStep_0, kX12_weekStep_37, kX12_weekStep_41, kX12_weekStep_42, kX12_weekStep_61, kX12_weekStep_74, kX12_weekStep_80, kX12_weekStep_102, kX12_weekStep_122, kX12_weekStep_137, kX12_weekStep_138, kX12_weekStep_152, kX12_weekStep_175, kX12_weekStep_202, kX12_weekStep_227, kX12_weekStep_284, qK_139, qR_139_0, qK_140, qR_139_1, qK_141, qR_139_5, qK_142, qR_139_6, qK_143, qR_139_7, qK_144, qR_139_8, qK_145, qR_139_9, qK_146, qR_139_21, qK_147, qR_139_25, qK_148, qR_139_30, qK_149, qR_139_31, qK_150, qR_139_33, qK_151, qR_139_34, qK_152, qR_139_35, qK_153, qR_139_36, qK_154, qR_139_39, qK_155, qR_139_40, qK_156, qR_139_41, qK_157]
            rw [dd4]
            have q5 : (qb false = 0) = True := by rw [qb_z]; simp
            have e1 : (qwi σ4 139 22 (nI s.2.2.2.1 - nI 1)).1 139 22 = nI (s.2.2.2.1 - 1) := by rw [qwi_1, if_pos ⟨rfl, rfl⟩, nI_sub (by omega)]
            have e2 : (qwi σ4 139 22 (nI s.2.2.2.1 - nI 1)).1 147 (s.2.2.2.1 - 1) = nI (s.2.2.2.2 (s.2.2.2.1 - 1)) := by rw [qwi_1, if_neg (by omega)]; exact oz
            simp only [q5, e1]
            simp (disch := omega) only [nI_leI, nI_ltI, nI_eq, nI_cl, qin_eq, nI_add, nI_mul, qb_z, qb_t, qb_f, nI_ne0', Nat.reduceAdd, Bool.false_eq_true, if_false, if_true, true_and, and_true, Nat.reduceEqDiff, not_true_eq_false, not_false_eq_true, false_implies, true_implies, ite_true, ite_false]
            simp only [e2]
            have e3 : (qwi (qwi σ4 139 22 (nI s.2.2.2.1 - nI 1)) 140 (1912 + 6 * s.2.1 + 4) (nI (s.2.2.2.2 (s.2.2.2.1 - 1)))).1 139 22 = nI (s.2.2.2.1 - 1) := by rw [qwi_1, if_neg (by omega)]; exact e1
            have e4 : (qwi (qwi σ4 139 22 (nI s.2.2.2.1 - nI 1)) 140 (1912 + 6 * s.2.1 + 4) (nI (s.2.2.2.2 (s.2.2.2.1 - 1)))).1 147 (s.2.2.2.1 - 1) = nI (s.2.2.2.2 (s.2.2.2.1 - 1)) := by rw [qwi_1, if_neg (by omega)]; exact e2
            refine ⟨fun hh => absurd e17 hh, fun _ => ?_⟩
            simp only [e3]
            simp (disch := omega) only [nI_leI, nI_ltI, nI_eq, nI_cl, qin_eq, nI_add, nI_mul, qb_z, qb_t, qb_f, nI_ne0', Nat.reduceAdd, Bool.false_eq_true, if_false, if_true, true_and, and_true, Nat.reduceEqDiff, not_true_eq_false, not_false_eq_true, false_implies, true_implies, ite_true, ite_false]
            simp only [e4]
            simp (disch := omega) only [nI_leI, nI_ltI, nI_eq, nI_cl, qin_eq, nI_add, nI_mul, qb_z, qb_t, qb_f, nI_ne0', Nat.reduceAdd, Bool.false_eq_true, if_false, if_true, true_and, and_true, Nat.reduceEqDiff, not_true_eq_false, not_false_eq_true, false_implies, true_implies, ite_true, ite_false]
            generalize s.2.2.2.2 (s.2.2.2.1 - 1) = z at *
            refine step_284 hB rg.2.1 (p4.kp (fun j => by rw [qwi_1, if_neg (by omega), qwi_1, if_neg (by omega), qwi_1, if_neg (by omega)]) (fun j hj => by rw [qwi_1, if_neg (by omega), qwi_1, if_neg (by omega), qwi_1, if_neg (by omega)])) ⟨?_, ?_, ?_, fun i hi => ?_, fun k hk j hj => ?_⟩ (((F4.tr (zF.wi (Or.inr (Or.inr (Or.inr ⟨rfl, Or.inl rfl⟩))))).tr (zF.wi (Or.inr (Or.inl ⟨rfl, by omega, by omega⟩)))).tr (zF.wi (Or.inr (Or.inl ⟨rfl, by omega, by omega⟩)))) rfl
            · rw [qwi_1, if_neg (by omega), qwi_1, if_neg (by omega), qwi_1, if_neg (by omega)]; exact n4
            · rw [qwi_1, if_neg (by omega), qwi_1, if_neg (by omega), qwi_1, if_pos ⟨rfl, rfl⟩, nI_sub (by omega)]
            · rw [qwi_1, if_neg (by omega), qwi_1, if_neg (by omega), qwi_1, if_neg (by omega)]; exact m4
            · rw [qwi_1, if_neg (by omega), qwi_1, if_neg (by omega), qwi_1, if_neg (by omega)]
              exact o4 i (by have hi : i < s.2.2.2.1 - 1 := hi; omega)
            · show _ = nI (if k = s.2.1 ∧ j = 4 then z else if k = z ∧ j = 4 then s.2.1 else if k = s.2.1 then v.1 j else s.1 k j)
              have hk : k < s.2.1 + 1 := hk
              by_cases c1 : k = s.2.1 ∧ j = 4
              · rw [if_pos c1, qwi_1, if_neg (by omega), qwi_1, if_pos (by omega)]
              · rw [if_neg c1]
                by_cases c2 : k = z ∧ j = 4
                · rw [if_pos c2, qwi_1, if_pos (by omega)]
                · rw [if_neg c2, qwi_1, if_neg (by omega), qwi_1, if_neg (by omega), qwi_1, if_neg (by omega)]
                  by_cases ek : k = s.2.1
                  · subst ek
                    rw [if_pos rfl]
                    exact w4 j hj
                  · rw [if_neg ek]
                    exact r4 k (by omega) j hj
          · rw [if_neg e17] at m4
            have eP : zpush s (tkY B p) v.1 = ((fun i j => if i = s.2.1 then v.1 j else s.1 i j), s.2.1 + 1, s.2.2.1 + 1, s.2.2.2.1, s.2.2.2.2) := by
              unfold zpush
              rw [if_neg e15, if_neg e17]
            rw [eP]
            refine qV.go 30 [284] ok_257 ?_
            simp only [qW_nop, qW_iconst, qW_bipush, qW_sipush, qW_ldcs, qW_iloadn, qW_iload, qW_aloadn, qW_istoren, qW_istore, qW_iinc, qW_iadd, qW_isub, qW_imul, qW_dup, qW_dup2, qW_ifeq, qW_iceq, qW_ifne, qW_icne, qW_iclt, qW_icge, qW_icgt, qW_goto, qW_getf, qW_iald, qW_iast, qW_cv1_2, qW_cv2_0, qW_cv3_0, qW_iret1, qW_putf0, Nat.reduceAdd, Nat.reduceMul, Nat.reduceBEq, Nat.reduceEqDiff, Nat.reduceLT, Nat.reduceLeDiff, Nat.zero_le, nI_add, nI_mul, nI_cl, qin_eq, qofI, qlg_0, qlg_s, qls_i0, qls_r0, qls_l0, qls_1, qls_2, qkl_i, qkl_r, qkl_l, qkl_n, qIsI_i, qIsL_l, qIsR_r, qint_i, qil_i, qil_r, qil_l, qf4_0, qf4_1, qf4_2, qf4_3, qf2_0, qf2_1, qcs_n, qcs_i, qcs_r, qcs_l, qst_n, qst_c, qJ_0, qJ_st, qJ_go, qfl_I, qfl_Z, qfl_L, qfl_R, qrI_i, qrL_l, qrV_v, qRcv_0, qRcv_s, eq_self, true_and, and_true, true_or, or_true, false_and, and_false, false_or, or_false, ite_true, if_true, if_false, Bool.true_or, Bool.false_or, Bool.or_false, beq_self_eq_true, Bool.false_eq_true, bX12_weekStep_0, bX12_weekStep_37, bX12_weekStep_41, bX12_weekStep_42, bX12_weekStep_61, bX12_weekStep_74, bX12_weekStep_80, bX12_weekStep_102, bX12_weekStep_122, bX12_weekStep_137, bX12_weekStep_138, bX12_weekStep_152, bX12_weekStep_175, bX12_weekStep_202, bX12_weekStep_227, bX12_weekStep_284, kX12_weekStep_0, kX12_weekStep_37, kX12_weekStep_41, kX12_weekStep_42, kX12_weekStep_61, kX12_weekStep_74, kX12_weekStep_80, kX12_weekStep_102, kX12_weekStep_122, kX12_weekStep_137, kX12_weekStep_138, kX12_weekStep_152, kX12_weekStep_175, kX12_weekStep_202, kX12_weekStep_227, kX12_weekStep_284, qK_139, qR_139_0, qK_140, qR_139_1, qK_141, qR_139_5, qK_142, qR_139_6, qK_143, qR_139_7, qK_144, qR_139_8, qK_145, qR_139_9, qK_146, qR_139_21, qK_147, qR_139_25, qK_148, qR_139_30, qK_149, qR_139_31, qK_150, qR_139_33, qK_151, qR_139_34, qK_152, qR_139_35, qK_153, qR_139_36, qK_154, qR_139_39, qK_155, qR_139_40, qK_156, qR_139_41, qK_157]
            have q5 : (qb false = 0) = True := by rw [qb_z]; simp
            simp only [q5]
            simp (disch := omega) only [nI_leI, nI_ltI, nI_eq, nI_cl, qin_eq, nI_add, nI_mul, qb_z, qb_t, qb_f, nI_ne0', Nat.reduceAdd, Bool.false_eq_true, if_false, if_true, true_and, and_true, Nat.reduceEqDiff, not_true_eq_false, not_false_eq_true, false_implies, true_implies, ite_true, ite_false]
            refine ⟨fun _ => ?_, fun hh => absurd hh e17⟩
            refine step_284 (s' := ((fun i j => if i = s.2.1 then v.1 j else s.1 i j), s.2.1 + 1, s.2.2.1 + 1, s.2.2.2.1, s.2.2.2.2)) hB rg.2.1 p4 ⟨n4, dd4, m4, o4, fun k hk j hj => ?_⟩ F4 rfl
            show _ = nI (if k = s.2.1 then v.1 j else s.1 k j)
            by_cases ek : k = s.2.1
            · subst ek
              rw [if_pos rfl]
              exact w4 j hj
            · rw [if_neg ek]
              exact r4 k (by have hk : k < s.2.1 + 1 := hk; omega) j hj
    · refine ih (by omega) (by omega) _ ?_ (fun j h1 h2 => ?_) ?_ (f1.tr (zF.wi (Or.inl ⟨rfl, by omega, by omega⟩)))
      · rw [qwi_1, if_neg (by omega)]; exact b1
      · rw [qwi_1]
        by_cases ej : j = i
        · subst ej; rw [if_pos ⟨rfl, rfl⟩]
        · rw [if_neg (by omega)]; exact b2 j h1 (by omega)
      · rw [qwi_1, if_neg (by omega)]; exact b3
  refine qV.go 30 [138] ok_257 ?_
  simp only [qW_nop, qW_iconst, qW_bipush, qW_sipush, qW_ldcs, qW_iloadn, qW_iload, qW_aloadn, qW_istoren, qW_istore, qW_iinc, qW_iadd, qW_isub, qW_imul, qW_dup, qW_dup2, qW_ifeq, qW_iceq, qW_ifne, qW_icne, qW_iclt, qW_icge, qW_icgt, qW_goto, qW_getf, qW_iald, qW_iast, qW_cv1_2, qW_cv2_0, qW_cv3_0, qW_iret1, qW_putf0, Nat.reduceAdd, Nat.reduceMul, Nat.reduceBEq, Nat.reduceEqDiff, Nat.reduceLT, Nat.reduceLeDiff, Nat.zero_le, nI_add, nI_mul, nI_cl, qin_eq, qofI, qlg_0, qlg_s, qls_i0, qls_r0, qls_l0, qls_1, qls_2, qkl_i, qkl_r, qkl_l, qkl_n, qIsI_i, qIsL_l, qIsR_r, qint_i, qil_i, qil_r, qil_l, qf4_0, qf4_1, qf4_2, qf4_3, qf2_0, qf2_1, qcs_n, qcs_i, qcs_r, qcs_l, qst_n, qst_c, qJ_0, qJ_st, qJ_go, qfl_I, qfl_Z, qfl_L, qfl_R, qrI_i, qrL_l, qrV_v, qRcv_0, qRcv_s, eq_self, true_and, and_true, true_or, or_true, false_and, and_false, false_or, or_false, ite_true, if_true, if_false, Bool.true_or, Bool.false_or, Bool.or_false, beq_self_eq_true, Bool.false_eq_true, bX12_weekStep_0, bX12_weekStep_37, bX12_weekStep_41, bX12_weekStep_42, bX12_weekStep_61, bX12_weekStep_74, bX12_weekStep_80, bX12_weekStep_102, bX12_weekStep_122, bX12_weekStep_137, bX12_weekStep_138, bX12_weekStep_152, bX12_weekStep_175, bX12_weekStep_202, bX12_weekStep_227, bX12_weekStep_284, kX12_weekStep_0, kX12_weekStep_37, kX12_weekStep_41, kX12_weekStep_42, kX12_weekStep_61, kX12_weekStep_74, kX12_weekStep_80, kX12_weekStep_102, kX12_weekStep_122, kX12_weekStep_137, kX12_weekStep_138, kX12_weekStep_152, kX12_weekStep_175, kX12_weekStep_202, kX12_weekStep_227, kX12_weekStep_284, qK_139, qR_139_0, qK_140, qR_139_1, qK_141, qR_139_5, qK_142, qR_139_6, qK_143, qR_139_7, qK_144, qR_139_8, qK_145, qR_139_9, qK_146, qR_139_21, qK_147, qR_139_25, qK_148, qR_139_30, qK_149, qR_139_31, qK_150, qR_139_33, qK_151, qR_139_34, qK_152, qR_139_35, qK_153, qR_139_36, qK_154, qR_139_39, qK_155, qR_139_40, qK_156, qR_139_41, qK_157]
  rw [d3]
  simp (disch := omega) only [nI_leI, nI_ltI, nI_eq, nI_cl, qin_eq, nI_add, nI_mul, qb_z, qb_t, qb_f, nI_ne0', Nat.reduceAdd, Bool.false_eq_true, if_false, if_true, true_and, and_true, Nat.reduceEqDiff, not_true_eq_false, not_false_eq_true, false_implies, true_implies, ite_true, ite_false]
  by_cases e17 : tkY B p = 17
  · rw [if_pos e17] at a138
    exact ⟨fun hh => absurd e17 hh, fun _ => a138⟩
  · rw [if_neg e17] at a138
    exact ⟨fun _ => a138, fun hh => absurd hh e17⟩
