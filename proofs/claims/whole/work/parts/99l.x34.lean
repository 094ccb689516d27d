/-! the class: weeks are read -/
def zPwq (a j : Nat) : Prop := (a = 50 ∧ 2 ≤ j ∧ j ≤ 12) ∨ (a = 66 ∧ j = 3) ∨ (67 ≤ a ∧ a ≤ 73)
theorem zPwr_q {σ σ' : qSg} (f : zG zPwr zRxt σ σ') : zG zPwq zRxt σ σ' := f.wk (fun a j h => by unfold zPwr at h; unfold zPwq; omega) (fun _ _ h => h)
def zXy (B : Nat → Nat) (N : Nat → List Nat) (C : zC) (σ : qSg) (v : Int32) (σ' : qSg) : Prop := zXo (zrdW B N (C 0 0) (C 0 2 * C 0 3)) v σ' (fun s => zXv σ' s ∧ zQW (C 0 0) (C 0 2 * C 0 3) s ∧ s.2.2.2.1 = 0 ∧ σ'.1 50 11 = nI 0 ∧ σ'.1 50 12 = iI (-1)) ∧ zG zPwq zRxt σ σ'
theorem zXb_c {B : Nat → Nat} {n : Nat} {s : zQ} {p : Nat} {σ : qSg} {v : Int32} {σ' : qSg} (h : zXb B n s p σ v σ') : ((∃ f, zpBegin B s p = some f ∧ v = nI 0 ∧ zXe σ' (zno B p f)) ∨ (zpBegin B s p = none ∧ v = nI 1 ∧ zXd σ' B n (tkE B p) ∧ zXj σ' s (tkY B p) 0 0 0)) ∧ zG zPwr zRxt σ σ' := by
  obtain ⟨h1, h2⟩ := h
  refine ⟨?_, h2⟩
  split at h1
  · exact Or.inl ⟨_, by assumption, h1⟩
  · exact Or.inr ⟨by assumption, h1⟩
set_option maxRecDepth 20000 in
theorem x_takeInW {σ : qSg} {B : Nat → Nat} {N : Nat → List Nat} {C : zC} {n : Nat} (hB : zBW B n) (h300 : n ≤ 300) (ht : ∀ k, k < n → σ.1 51 k = zby (B k)) (hxw : zXw σ) (hC : zX σ 1 C) (hw : zW C) (hn : zXnm σ 1 (C 0 0) N) (hN : zNW (C 0 0) N) : qCI 7 127 [qr 66, qi (nI n), qr 1] σ (zXy B N C σ) := by
  have hcl := zSW_cells hw
  refine qCI.of [some (qr 66), some (qi (nI n)), some (qr 1), none, none, none] ok_127 (Nat.le_of_ble_eq_true rfl) rfl ?_
  refine qV.go 30 [33] ok_127 ?_
  simp only [qW_nop, qW_iconst, qW_bipush, qW_sipush, qW_iloadn, qW_iload, qW_aloadn, qW_istoren, qW_istore, qW_iinc, qW_ifeq, qW_ifne, qW_icne, qW_icgt, qW_goto, qW_getf, qW_cv1_0, qW_cv1_2, qW_cv2_0, qW_cv2_2, qW_cv3_0, qW_iret1, qW_putf0, qW_putf3, Nat.reduceAdd, Nat.reduceMul, Nat.reduceBEq, Nat.reduceEqDiff, Nat.reduceLT, Nat.reduceLeDiff, Nat.zero_le, nI_add, nI_mul, nI_cl, qin_eq, qofI, qlg_0, qlg_s, qls_i0, qls_r0, qls_l0, qls_1, qls_2, qkl_i, qkl_r, qkl_l, qkl_n, qIsI_i, qIsL_l, qIsR_r, qint_i, qil_i, qil_r, qil_l, qf4_0, qf4_1, qf4_2, qf4_3, qf2_0, qf2_1, qcs_n, qcs_i, qcs_r, qcs_l, qst_n, qst_c, qJ_0, qJ_st, qJ_go, qfl_I, qfl_Z, qfl_L, qfl_R, qrI_i, qrL_l, qrV_v, qRcv_0, qRcv_s, eq_self, true_and, and_true, true_or, or_true, false_and, and_false, false_or, or_false, ite_true, if_true, if_false, Bool.true_or, Bool.false_or, Bool.or_false, beq_self_eq_true, Bool.false_eq_true, bX10_takeIn_0, bX10_takeIn_33, bX10_takeIn_79, bX10_takeIn_112, bX10_takeIn_113, bX10_takeIn_114, bX10_takeIn_120, bX10_takeIn_141, bX10_takeIn_145, bX10_takeIn_146, kX10_takeIn_0, kX10_takeIn_33, kX10_takeIn_79, kX10_takeIn_112, kX10_takeIn_113, kX10_takeIn_114, kX10_takeIn_120, kX10_takeIn_141, kX10_takeIn_145, kX10_takeIn_146, qK_66, qR_66_0, qK_50, qR_66_1, qK_67, qR_66_2, qK_73, qK_67, qR_67_3, qK_68, qR_67_4, qK_69, qR_67_5, qK_70, qR_67_6, qK_71, qR_67_7, qK_72, qK_50, qR_50_0, qK_51, qR_50_13, qK_52, qK_1, qR_1_6, qK_2, qR_1_7, qK_3, qR_1_8, qK_4, qR_1_9, qK_5, qR_1_10, qK_6, qR_1_11, qK_7, qR_1_12, qK_8, qR_1_13, qK_9, qR_1_14, qK_10, qR_1_15, qK_11, qR_1_16, qK_12]
  refine qBV.of (x_drop (Or.inl rfl)) (by decide) (fun σ0 g0 => ?_)
  subst g0
  have q0 : ∀ k, k < 3 → (qwi (qwi (qwi (qwi (qwi σ 67 0 (nI 0)) 67 1 (nI 0)) 67 2 (nI 0)) 67 0 (nI 1)) 66 3 (nI 0)).1 67 k = if k = 0 then nI 1 else nI 0 := by
    intro k hk
    rcases (show k = 0 ∨ k = 1 ∨ k = 2 by omega) with rfl | rfl | rfl
    · rw [qwi_1, if_neg (by decide), qwi_1, if_pos ⟨rfl, rfl⟩]; rfl
    · rw [qwi_1, if_neg (by decide), qwi_1, if_neg (by decide), qwi_1, if_neg (by decide), qwi_1, if_pos ⟨rfl, rfl⟩]; rfl
    · rw [qwi_1, if_neg (by decide), qwi_1, if_neg (by decide), qwi_1, if_pos ⟨rfl, rfl⟩]; rfl
  have q3 : (qwi (qwi (qwi (qwi (qwi σ 67 0 (nI 0)) 67 1 (nI 0)) 67 2 (nI 0)) 67 0 (nI 1)) 66 3 (nI 0)).1 66 3 = nI 0 := by rw [qwi_1, if_pos ⟨rfl, rfl⟩]
  have F0 : zG zPwq (fun _ _ => False) σ (qwi (qwi (qwi (qwi (qwi σ 67 0 (nI 0)) 67 1 (nI 0)) 67 2 (nI 0)) 67 0 (nI 1)) 66 3 (nI 0)) := by
    have p7 : ∀ j, zPwq 67 j := fun j => Or.inr (Or.inr ⟨by decide, by decide⟩)
    exact ((((zG.wi (p7 _)).tr (zG.wi (p7 _))).tr (zG.wi (p7 _))).tr (zG.wi (p7 _))).tr (zG.wi (Or.inr (Or.inl ⟨rfl, rfl⟩)))
  generalize qwi (qwi (qwi (qwi (qwi σ 67 0 (nI 0)) 67 1 (nI 0)) 67 2 (nI 0)) 67 0 (nI 1)) 66 3 (nI 0) = σ1 at q0 q3 F0 ⊢
  have t1 : ∀ k, k < n → σ1.1 51 k = zby (B k) := fun k hk => by rw [F0.1 _ _ (by unfold zPwq; omega)]; exact ht k hk
  have w1 : zXw σ1 := fun i hi => by rw [F0.2 _ _ (fun hh => hh)]; exact hxw i hi
  refine qBV.of (x_open hB t1 w1) (by decide) (fun σ2 g2 => ?_)
  obtain ⟨d2, f2⟩ := g2
  have F2 : zG zPwq zRxt σ σ2 := (F0.wk (fun a j hh => hh) (fun a j hh => hh.elim)).tr (f2.wk (fun a j hh => Or.inl hh) (fun a j hh => hh))
  have S2 : zXv σ2 zQ0 := by
    refine ⟨⟨?_, ?_, fun k hk => absurd hk (Nat.not_lt_zero _)⟩, ?_, ?_, fun i hi => absurd hi (Nat.not_lt_zero _)⟩
    · rw [f2.1 _ _ (by omega), q0 1 (by decide)]; rfl
    · rw [f2.1 _ _ (by omega), q0 2 (by decide)]; rfl
    · rw [f2.1 _ _ (by omega), q0 0 (by decide)]; rfl
    · rw [f2.1 _ _ (by omega), q3]; rfl
  refine qdown (n := 300) (P := fun i => ∀ p s σ3 (l5 : Option qPV), i ≤ p → p ≤ n → zXd σ3 B n p → zXv σ3 s → zQW (C 0 0) (C 0 2 * C 0 3) s → zrdW B N (C 0 0) (C 0 2 * C 0 3) = zpWeeks B N (C 0 0) (C 0 2 * C 0 3) (1000 - i) s p → zG zPwq zRxt σ σ3 → qV 127 7 (.inl (zXy B N C σ)) 33 [some (qr 66), some (qi (nI n)), some (qr 1), some (qi (nI 1)), some (qi (nI i)), l5] [] σ3) (fun i hi ih => ?_) 0 (Nat.zero_le _) 0 _ σ2 none (Nat.zero_le _) (Nat.zero_le _) d2 S2 (zQW_0 _ _) rfl F2
  clear d2 F2 S2 f2 q0 q3 t1 w1 F0
  intro p s σ3 l5 hip hp d3 S3 W3 eR F3
  have hy := tkY_le B p
  have ht := tkE_spec hB hp
  have hdp := W3.2.2.1
  refine qV.go 30 [33, 79, 112, 114, 120] ok_127 ?_
  simp only [qW_nop, qW_iconst, qW_bipush, qW_sipush, qW_iloadn, qW_iload, qW_aloadn, qW_istoren, qW_istore, qW_iinc, qW_ifeq, qW_ifne, qW_icne, qW_icgt, qW_goto, qW_getf, qW_cv1_0, qW_cv1_2, qW_cv2_0, qW_cv2_2, qW_cv3_0, qW_iret1, qW_putf0, qW_putf3, Nat.reduceAdd, Nat.reduceMul, Nat.reduceBEq, Nat.reduceEqDiff, Nat.reduceLT, Nat.reduceLeDiff, Nat.zero_le, nI_add, nI_mul, nI_cl, qin_eq, qofI, qlg_0, qlg_s, qls_i0, qls_r0, qls_l0, qls_1, qls_2, qkl_i, qkl_r, qkl_l, qkl_n, qIsI_i, qIsL_l, qIsR_r, qint_i, qil_i, qil_r, qil_l, qf4_0, qf4_1, qf4_2, qf4_3, qf2_0, qf2_1, qcs_n, qcs_i, qcs_r, qcs_l, qst_n, qst_c, qJ_0, qJ_st, qJ_go, qfl_I, qfl_Z, qfl_L, qfl_R, qrI_i, qrL_l, qrV_v, qRcv_0, qRcv_s, eq_self, true_and, and_true, true_or, or_true, false_and, and_false, false_or, or_false, ite_true, if_true, if_false, Bool.true_or, Bool.false_or, Bool.or_false, beq_self_eq_true, Bool.false_eq_true, bX10_takeIn_0, bX10_takeIn_33, bX10_takeIn_79, bX10_takeIn_112, bX10_takeIn_113, bX10_takeIn_114, bX10_takeIn_120, bX10_takeIn_141, bX10_takeIn_145, bX10_takeIn_146, kX10_takeIn_0, kX10_takeIn_33, kX10_takeIn_79, kX10_takeIn_112, kX10_takeIn_113, kX10_takeIn_114, kX10_takeIn_120, kX10_takeIn_141, kX10_takeIn_145, kX10_takeIn_146, qK_66, qR_66_0, qK_50, qR_66_1, qK_67, qR_66_2, qK_73, qK_67, qR_67_3, qK_68, qR_67_4, qK_69, qR_67_5, qK_70, qR_67_6, qK_71, qR_67_7, qK_72, qK_50, qR_50_0, qK_51, qR_50_13, qK_52, qK_1, qR_1_6, qK_2, qR_1_7, qK_3, qR_1_8, qK_4, qR_1_9, qK_5, qR_1_10, qK_6, qR_1_11, qK_7, qR_1_12, qK_8, qR_1_13, qK_9, qR_1_14, qK_10, qR_1_15, qK_11, qR_1_16, qK_12]
  simp (disch := omega) only [nI_leI, nI_ltI, nI_eq, nI_cl, qin_eq, nI_add, nI_mul, qb_z, qb_t, qb_f, nI_ne0', Nat.reduceAdd, Bool.false_eq_true, if_false, if_true, true_and, and_true, Nat.reduceEqDiff, not_true_eq_false, not_false_eq_true, false_implies, true_implies, ite_true, ite_false]
  refine ⟨fun g => absurd (show i ≤ 300 by omega) (by omega), fun _ => ?_⟩
  refine qBI.fn (x_atEnd d3) (by decide) ?_
  obtain ⟨f, hf⟩ : ∃ f, 1000 - i = f + 1 := ⟨1000 - i - 1, by omega⟩
  rw [hf, zpWeeks] at eR
  simp (disch := omega) only [nI_leI, nI_ltI, nI_eq, nI_cl, qin_eq, nI_add, nI_mul, qb_z, qb_t, qb_f, nI_ne0', Nat.reduceAdd, Bool.false_eq_true, if_false, if_true, true_and, and_true, Nat.reduceEqDiff, not_true_eq_false, not_false_eq_true, false_implies, true_implies, ite_true, ite_false, Bool.not_eq_false, Bool.not_eq_true]
  simp only [decide_eq_true_eq, decide_eq_false_iff_not]
  have lost : ∀ σ4 e j (l : Option qPV), zrdW B N (C 0 0) (C 0 2 * C 0 3) = .inl e → zXe σ4 e → zG zPwq zRxt σ σ4 → qV 127 7 (.inl (zXy B N C σ)) 120 [some (qr 66), some (qi (nI n)), some (qr 1), some (qi (nI 0)), some (qi (nI j)), l] [] σ4 := by
    intro σ4 e j l he hfe F4
    refine qV.go 30 [9999] ok_127 ?_
    simp only [qW_nop, qW_iconst, qW_bipush, qW_sipush, qW_iloadn, qW_iload, qW_aloadn, qW_istoren, qW_istore, qW_iinc, qW_ifeq, qW_ifne, qW_icne, qW_icgt, qW_goto, qW_getf, qW_cv1_0, qW_cv1_2, qW_cv2_0, qW_cv2_2, qW_cv3_0, qW_iret1, qW_putf0, qW_putf3, Nat.reduceAdd, Nat.reduceMul, Nat.reduceBEq, Nat.reduceEqDiff, Nat.reduceLT, Nat.reduceLeDiff, Nat.zero_le, nI_add, nI_mul, nI_cl, qin_eq, qofI, qlg_0, qlg_s, qls_i0, qls_r0, qls_l0, qls_1, qls_2, qkl_i, qkl_r, qkl_l, qkl_n, qIsI_i, qIsL_l, qIsR_r, qint_i, qil_i, qil_r, qil_l, qf4_0, qf4_1, qf4_2, qf4_3, qf2_0, qf2_1, qcs_n, qcs_i, qcs_r, qcs_l, qst_n, qst_c, qJ_0, qJ_st, qJ_go, qfl_I, qfl_Z, qfl_L, qfl_R, qrI_i, qrL_l, qrV_v, qRcv_0, qRcv_s, eq_self, true_and, and_true, true_or, or_true, false_and, and_false, false_or, or_false, ite_true, if_true, if_false, Bool.true_or, Bool.false_or, Bool.or_false, beq_self_eq_true, Bool.false_eq_true, bX10_takeIn_0, bX10_takeIn_33, bX10_takeIn_79, bX10_takeIn_112, bX10_takeIn_113, bX10_takeIn_114, bX10_takeIn_120, bX10_takeIn_141, bX10_takeIn_145, bX10_takeIn_146, kX10_takeIn_0, kX10_takeIn_33, kX10_takeIn_79, kX10_takeIn_112, kX10_takeIn_113, kX10_takeIn_114, kX10_takeIn_120, kX10_takeIn_141, kX10_takeIn_145, kX10_takeIn_146, qK_66, qR_66_0, qK_50, qR_66_1, qK_67, qR_66_2, qK_73, qK_50, qR_50_0, qK_51, qR_50_13, qK_52]
    simp (disch := omega) only [nI_leI, nI_ltI, nI_eq, nI_cl, qin_eq, nI_add, nI_mul, qb_z, qb_t, qb_f, nI_ne0', Nat.reduceAdd, Bool.false_eq_true, if_false, if_true, true_and, and_true, Nat.reduceEqDiff, not_true_eq_false, not_false_eq_true, false_implies, true_implies, ite_true, ite_false]
    exact ⟨zXo_l he rfl hfe, F4⟩
  refine ⟨fun g0 => ?_, fun g0 => ?_⟩
  · -- the end
    rw [if_pos g0] at eR
    refine qV.go 30 [9999] ok_127 ?_
    simp only [qW_nop, qW_iconst, qW_bipush, qW_sipush, qW_iloadn, qW_iload, qW_aloadn, qW_istoren, qW_istore, qW_iinc, qW_ifeq, qW_ifne, qW_icne, qW_icgt, qW_goto, qW_getf, qW_cv1_0, qW_cv1_2, qW_cv2_0, qW_cv2_2, qW_cv3_0, qW_iret1, qW_putf0, qW_putf3, Nat.reduceAdd, Nat.reduceMul, Nat.reduceBEq, Nat.reduceEqDiff, Nat.reduceLT, Nat.reduceLeDiff, Nat.zero_le, nI_add, nI_mul, nI_cl, qin_eq, qofI, qlg_0, qlg_s, qls_i0, qls_r0, qls_l0, qls_1, qls_2, qkl_i, qkl_r, qkl_l, qkl_n, qIsI_i, qIsL_l, qIsR_r, qint_i, qil_i, qil_r, qil_l, qf4_0, qf4_1, qf4_2, qf4_3, qf2_0, qf2_1, qcs_n, qcs_i, qcs_r, qcs_l, qst_n, qst_c, qJ_0, qJ_st, qJ_go, qfl_I, qfl_Z, qfl_L, qfl_R, qrI_i, qrL_l, qrV_v, qRcv_0, qRcv_s, eq_self, true_and, and_true, true_or, or_true, false_and, and_false, false_or, or_false, ite_true, if_true, if_false, Bool.true_or, Bool.false_or, Bool.or_false, beq_self_eq_true, Bool.false_eq_true, bX10_takeIn_0, bX10_takeIn_33, bX10_takeIn_79, bX10_takeIn_112, bX10_takeIn_113, bX10_takeIn_114, bX10_takeIn_120, bX10_takeIn_141, bX10_takeIn_145, bX10_takeIn_146, kX10_takeIn_0, kX10_takeIn_33, kX10_takeIn_79, kX10_takeIn_112, kX10_takeIn_113, kX10_takeIn_114, kX10_takeIn_120, kX10_takeIn_141, kX10_takeIn_145, kX10_takeIn_146, qK_66, qR_66_0, qK_50, qR_66_1, qK_67, qR_66_2, qK_73, qK_50, qR_50_0, qK_51, qR_50_13, qK_52]
    rw [S3.2.2.1]
    simp (disch := omega) only [nI_leI, nI_ltI, nI_eq, nI_cl, qin_eq, nI_add, nI_mul, qb_z, qb_t, qb_f, nI_ne0', Nat.reduceAdd, Bool.false_eq_true, if_false, if_true, true_and, and_true, Nat.reduceEqDiff, not_true_eq_false, not_false_eq_true, false_implies, true_implies, ite_true, ite_false]
    refine And.symm ⟨fun gd => ?_, fun gd => ?_⟩
    · rw [if_neg gd] at eR
      refine qBI.of (x_cannot d3) (by decide) (fun v σ4 g4 => ?_)
      obtain ⟨rfl, g4, f4⟩ := g4
      simp (disch := omega) only [nI_leI, nI_ltI, nI_eq, nI_cl, qin_eq, nI_add, nI_mul, qb_z, qb_t, qb_f, nI_ne0', Nat.reduceAdd, Bool.false_eq_true, if_false, if_true, true_and, and_true, Nat.reduceEqDiff, not_true_eq_false, not_false_eq_true, false_implies, true_implies, ite_true, ite_false]
      exact ⟨zXo_l eR rfl g4, F3.tr (zPwr_q (zPxt_w f4))⟩
    · rw [if_pos gd] at eR
      exact ⟨zXo_r eR rfl ⟨S3, W3, gd, d3.2.1, d3.2.2⟩, F3⟩
  · -- a line
    rw [if_neg g0] at eR
    have nx : ∀ (v : Int32) (l : Option qPV) (σ4 : qSg), zXz B N n (C 0 0) (C 0 2 * C 0 3) s p σ3 v σ4 → qV 127 7 (.inl (zXy B N C σ)) 114 [some (qr 66), some (qi (nI n)), some (qr 1), some (qi v), some (qi (nI i)), l] [] σ4 := by
      intro v l σ4 g4
      obtain ⟨g4, f4⟩ := g4
      have F4 := F3.tr (zPwr_q f4)
      rcases zXo_c g4 with ⟨e, he, rfl, hfe⟩ | ⟨r, hr, rfl, d4, S4⟩
      · refine qV.go 30 [79, 112, 114, 120] ok_127 ?_
        simp only [qW_nop, qW_iconst, qW_bipush, qW_sipush, qW_iloadn, qW_iload, qW_aloadn, qW_istoren, qW_istore, qW_iinc, qW_ifeq, qW_ifne, qW_icne, qW_icgt, qW_goto, qW_getf, qW_cv1_0, qW_cv1_2, qW_cv2_0, qW_cv2_2, qW_cv3_0, qW_iret1, qW_putf0, qW_putf3, Nat.reduceAdd, Nat.reduceMul, Nat.reduceBEq, Nat.reduceEqDiff, Nat.reduceLT, Nat.reduceLeDiff, Nat.zero_le, nI_add, nI_mul, nI_cl, qin_eq, qofI, qlg_0, qlg_s, qls_i0, qls_r0, qls_l0, qls_1, qls_2, qkl_i, qkl_r, qkl_l, qkl_n, qIsI_i, qIsL_l, qIsR_r, qint_i, qil_i, qil_r, qil_l, qf4_0, qf4_1, qf4_2, qf4_3, qf2_0, qf2_1, qcs_n, qcs_i, qcs_r, qcs_l, qst_n, qst_c, qJ_0, qJ_st, qJ_go, qfl_I, qfl_Z, qfl_L, qfl_R, qrI_i, qrL_l, qrV_v, qRcv_0, qRcv_s, eq_self, true_and, and_true, true_or, or_true, false_and, and_false, false_or, or_false, ite_true, if_true, if_false, Bool.true_or, Bool.false_or, Bool.or_false, beq_self_eq_true, Bool.false_eq_true, bX10_takeIn_0, bX10_takeIn_33, bX10_takeIn_79, bX10_takeIn_112, bX10_takeIn_113, bX10_takeIn_114, bX10_takeIn_120, bX10_takeIn_141, bX10_takeIn_145, bX10_takeIn_146, kX10_takeIn_0, kX10_takeIn_33, kX10_takeIn_79, kX10_takeIn_112, kX10_takeIn_113, kX10_takeIn_114, kX10_takeIn_120, kX10_takeIn_141, kX10_takeIn_145, kX10_takeIn_146, qK_66, qR_66_0, qK_50, qR_66_1, qK_67, qR_66_2, qK_73, qK_50, qR_50_0, qK_51, qR_50_13, qK_52, qK_1, qR_1_6, qK_2, qR_1_7, qK_3, qR_1_8, qK_4, qR_1_9, qK_5, qR_1_10, qK_6, qR_1_11, qK_7, qR_1_12, qK_8, qR_1_13, qK_9, qR_1_14, qK_10, qR_1_15, qK_11, qR_1_16, qK_12]
        simp (disch := omega) only [nI_leI, nI_ltI, nI_eq, nI_cl, qin_eq, nI_add, nI_mul, qb_z, qb_t, qb_f, nI_ne0', Nat.reduceAdd, Bool.false_eq_true, if_false, if_true, true_and, and_true, Nat.reduceEqDiff, not_true_eq_false, not_false_eq_true, false_implies, true_implies, ite_true, ite_false]
        exact ⟨fun _ => lost _ e _ _ (by rw [eR, he]; rfl) hfe F4, fun _ => lost _ e _ _ (by rw [eR, he]; rfl) hfe F4⟩
      · have st := zpStep_inr hB hp hcl.1 W3 hr
        refine qV.go 30 [33] ok_127 ?_
        simp only [qW_nop, qW_iconst, qW_bipush, qW_sipush, qW_iloadn, qW_iload, qW_aloadn, qW_istoren, qW_istore, qW_iinc, qW_ifeq, qW_ifne, qW_icne, qW_icgt, qW_goto, qW_getf, qW_cv1_0, qW_cv1_2, qW_cv2_0, qW_cv2_2, qW_cv3_0, qW_iret1, qW_putf0, qW_putf3, Nat.reduceAdd, Nat.reduceMul, Nat.reduceBEq, Nat.reduceEqDiff, Nat.reduceLT, Nat.reduceLeDiff, Nat.zero_le, nI_add, nI_mul, nI_cl, qin_eq, qofI, qlg_0, qlg_s, qls_i0, qls_r0, qls_l0, qls_1, qls_2, qkl_i, qkl_r, qkl_l, qkl_n, qIsI_i, qIsL_l, qIsR_r, qint_i, qil_i, qil_r, qil_l, qf4_0, qf4_1, qf4_2, qf4_3, qf2_0, qf2_1, qcs_n, qcs_i, qcs_r, qcs_l, qst_n, qst_c, qJ_0, qJ_st, qJ_go, qfl_I, qfl_Z, qfl_L, qfl_R, qrI_i, qrL_l, qrV_v, qRcv_0, qRcv_s, eq_self, true_and, and_true, true_or, or_true, false_and, and_false, false_or, or_false, ite_true, if_true, if_false, Bool.true_or, Bool.false_or, Bool.or_false, beq_self_eq_true, Bool.false_eq_true, bX10_takeIn_0, bX10_takeIn_33, bX10_takeIn_79, bX10_takeIn_112, bX10_takeIn_113, bX10_takeIn_114, bX10_takeIn_120, bX10_takeIn_141, bX10_takeIn_145, bX10_takeIn_146, kX10_takeIn_0, kX10_takeIn_33, kX10_takeIn_79, kX10_takeIn_112, kX10_takeIn_113, kX10_takeIn_114, kX10_takeIn_120, kX10_takeIn_141, kX10_takeIn_145, kX10_takeIn_146, qK_66, qR_66_0, qK_50, qR_66_1, qK_67, qR_66_2, qK_73]
        refine ih (by omega) r.2 r.1 σ4 _ (by omega) st.2.1 d4 S4 st.2.2 ?_ F4
        rw [eR, hr, zbd_r, show 1000 - (i + 1) = f by omega]
    have C3 : zX σ3 1 C := hC.fr fun a j h1 h2 => F3.1 a j (by unfold zPwq; omega)
    have N3 : zXnm σ3 1 (C 0 0) N := fun b hb => by rw [F3.2 _ _ (by unfold zRxt; omega)]; exact hn b hb
    have e17 : (zkc (tkY B p) = nI 20) = (tkY B p = 17) := zkc_eq (k := 17) hy (by decide)
    rw [d3.1.2.2.2.2.1, e17]
    refine And.symm ⟨fun gE => ?_, fun gE => ?_⟩
    · refine qBI.of (x_takeEnd (N := N) hB hp d3 S3 W3 gE) (by decide) (fun v σ4 g4 => ?_)
      exact nx v _ σ4 g4
    · have no : ∀ σ4 e, zpStep B N (C 0 0) (C 0 2 * C 0 3) s p = .inl e → zXe σ4 e → zG zPwr zRxt σ3 σ4 → qV 127 7 (.inl (zXy B N C σ)) 112 [some (qr 66), some (qi (nI n)), some (qr 1), some (qi (nI 1)), some (qi (nI i)), some (qi (zkc (tkY B p)))] [] σ4 := by
        intro σ4 e he hfe F4
        refine qV.go 30 [114] ok_127 ?_
        simp only [qW_nop, qW_iconst, qW_bipush, qW_sipush, qW_iloadn, qW_iload, qW_aloadn, qW_istoren, qW_istore, qW_iinc, qW_ifeq, qW_ifne, qW_icne, qW_icgt, qW_goto, qW_getf, qW_cv1_0, qW_cv1_2, qW_cv2_0, qW_cv2_2, qW_cv3_0, qW_iret1, qW_putf0, qW_putf3, Nat.reduceAdd, Nat.reduceMul, Nat.reduceBEq, Nat.reduceEqDiff, Nat.reduceLT, Nat.reduceLeDiff, Nat.zero_le, nI_add, nI_mul, nI_cl, qin_eq, qofI, qlg_0, qlg_s, qls_i0, qls_r0, qls_l0, qls_1, qls_2, qkl_i, qkl_r, qkl_l, qkl_n, qIsI_i, qIsL_l, qIsR_r, qint_i, qil_i, qil_r, qil_l, qf4_0, qf4_1, qf4_2, qf4_3, qf2_0, qf2_1, qcs_n, qcs_i, qcs_r, qcs_l, qst_n, qst_c, qJ_0, qJ_st, qJ_go, qfl_I, qfl_Z, qfl_L, qfl_R, qrI_i, qrL_l, qrV_v, qRcv_0, qRcv_s, eq_self, true_and, and_true, true_or, or_true, false_and, and_false, false_or, or_false, ite_true, if_true, if_false, Bool.true_or, Bool.false_or, Bool.or_false, beq_self_eq_true, Bool.false_eq_true, bX10_takeIn_0, bX10_takeIn_33, bX10_takeIn_79, bX10_takeIn_112, bX10_takeIn_113, bX10_takeIn_114, bX10_takeIn_120, bX10_takeIn_141, bX10_takeIn_145, bX10_takeIn_146, kX10_takeIn_0, kX10_takeIn_33, kX10_takeIn_79, kX10_takeIn_112, kX10_takeIn_113, kX10_takeIn_114, kX10_takeIn_120, kX10_takeIn_141, kX10_takeIn_145, kX10_takeIn_146, qK_66, qR_66_0, qK_50, qR_66_1, qK_67, qR_66_2, qK_73]
        exact nx _ _ σ4 ⟨zXo_l he rfl hfe, F4⟩
      refine qV.go 30 [112, 114] ok_127 ?_
      simp only [qW_nop, qW_iconst, qW_bipush, qW_sipush, qW_iloadn, qW_iload, qW_aloadn, qW_istoren, qW_istore, qW_iinc, qW_ifeq, qW_ifne, qW_icne, qW_icgt, qW_goto, qW_getf, qW_cv1_0, qW_cv1_2, qW_cv2_0, qW_cv2_2, qW_cv3_0, qW_iret1, qW_putf0, qW_putf3, Nat.reduceAdd, Nat.reduceMul, Nat.reduceBEq, Nat.reduceEqDiff, Nat.reduceLT, Nat.reduceLeDiff, Nat.zero_le, nI_add, nI_mul, nI_cl, qin_eq, qofI, qlg_0, qlg_s, qls_i0, qls_r0, qls_l0, qls_1, qls_2, qkl_i, qkl_r, qkl_l, qkl_n, qIsI_i, qIsL_l, qIsR_r, qint_i, qil_i, qil_r, qil_l, qf4_0, qf4_1, qf4_2, qf4_3, qf2_0, qf2_1, qcs_n, qcs_i, qcs_r, qcs_l, qst_n, qst_c, qJ_0, qJ_st, qJ_go, qfl_I, qfl_Z, qfl_L, qfl_R, qrI_i, qrL_l, qrV_v, qRcv_0, qRcv_s, eq_self, true_and, and_true, true_or, or_true, false_and, and_false, false_or, or_false, ite_true, if_true, if_false, Bool.true_or, Bool.false_or, Bool.or_false, beq_self_eq_true, Bool.false_eq_true, bX10_takeIn_0, bX10_takeIn_33, bX10_takeIn_79, bX10_takeIn_112, bX10_takeIn_113, bX10_takeIn_114, bX10_takeIn_120, bX10_takeIn_141, bX10_takeIn_145, bX10_takeIn_146, kX10_takeIn_0, kX10_takeIn_33, kX10_takeIn_79, kX10_takeIn_112, kX10_takeIn_113, kX10_takeIn_114, kX10_takeIn_120, kX10_takeIn_141, kX10_takeIn_145, kX10_takeIn_146, qK_66, qR_66_0, qK_50, qR_66_1, qK_67, qR_66_2, qK_73, qK_50, qR_50_0, qK_51, qR_50_13, qK_52, qK_1, qR_1_6, qK_2, qR_1_7, qK_3, qR_1_8, qK_4, qR_1_9, qK_5, qR_1_10, qK_6, qR_1_11, qK_7, qR_1_12, qK_8, qR_1_13, qK_9, qR_1_14, qK_10, qR_1_15, qK_11, qR_1_16, qK_12]
      refine qBI.of (x_beginStep hB hp d3 S3 W3 gE) (by decide) (fun v σ4 g4 => ?_)
      obtain ⟨g4, f4⟩ := zXb_c g4
      rcases g4 with ⟨fl, hfl, rfl, hfe⟩ | ⟨hbn, rfl, d4, J4⟩
      · simp (disch := omega) only [nI_leI, nI_ltI, nI_eq, nI_cl, qin_eq, nI_add, nI_mul, qb_z, qb_t, qb_f, nI_ne0', Nat.reduceAdd, Bool.false_eq_true, if_false, if_true, true_and, and_true, Nat.reduceEqDiff, not_true_eq_false, not_false_eq_true, false_implies, true_implies, ite_true, ite_false]
        exact no σ4 (zno B p fl) (by unfold zpStep; rw [hfl]) hfe f4
      · simp (disch := omega) only [nI_leI, nI_ltI, nI_eq, nI_cl, qin_eq, nI_add, nI_mul, qb_z, qb_t, qb_f, nI_ne0', Nat.reduceAdd, Bool.false_eq_true, if_false, if_true, true_and, and_true, Nat.reduceEqDiff, not_true_eq_false, not_false_eq_true, false_implies, true_implies, ite_true, ite_false]
        have hb := zpBegin_n hbn
        have eS : zpStep B N (C 0 0) (C 0 2 * C 0 3) s p = zbd (zpRow B N (C 0 0) (C 0 2 * C 0 3) (tkY B p) (tkE B p)) fun r => zbd (zpS B 59 r.2) fun q => .inr (zpush s (tkY B p) r.1, q) := by unfold zpStep; rw [hbn]
        have hm : s.2.1 < 60 := by
          have h1 := W3.1
          have h2 := W3.2.1
          have h3 := hb.2.2.1 gE
          omega
        have C4 : zX σ4 1 C := C3.fr fun a j h1 h2 => f4.1 a j (by unfold zPwr; omega)
        have N4 : zXnm σ4 1 (C 0 0) N := fun b hb => by rw [f4.2 _ _ (by unfold zRxt; omega)]; exact N3 b hb
        refine qBI.of (x_takeRest hB ht.2.2.1 d4 J4 hm C4 hw N4 hN hb.1 gE) (by decide) (fun v σ5 g5 => ?_)
        obtain ⟨g5, f5⟩ := g5
        have F5 := f4.tr f5
        rcases zXo_c g5 with ⟨e, he, rfl, hfe⟩ | ⟨r, hr, rfl, d5, J5⟩
        · simp (disch := omega) only [nI_leI, nI_ltI, nI_eq, nI_cl, qin_eq, nI_add, nI_mul, qb_z, qb_t, qb_f, nI_ne0', Nat.reduceAdd, Bool.false_eq_true, if_false, if_true, true_and, and_true, Nat.reduceEqDiff, not_true_eq_false, not_false_eq_true, false_implies, true_implies, ite_true, ite_false]
          exact no σ5 e (by rw [eS, he]; rfl) hfe F5
        · simp (disch := omega) only [nI_leI, nI_ltI, nI_eq, nI_cl, qin_eq, nI_add, nI_mul, qb_z, qb_t, qb_f, nI_ne0', Nat.reduceAdd, Bool.false_eq_true, if_false, if_true, true_and, and_true, Nat.reduceEqDiff, not_true_eq_false, not_false_eq_true, false_implies, true_implies, ite_true, ite_false]
          have s5 := zpRow_inr hB ht.2.2.1 hcl.1 hb.1 hr
          refine qBI.of (x_takeStop hB s5.2.1 d5) (by decide) (fun v σ6 g6 => ?_)
          obtain ⟨g6, f6⟩ := g6
          have F6 := F5.tr (zPxt_w f6)
          rcases zXo_c g6 with ⟨e, he, rfl, hfe⟩ | ⟨u, hu, rfl, d6⟩
          · simp (disch := omega) only [nI_leI, nI_ltI, nI_eq, nI_cl, qin_eq, nI_add, nI_mul, qb_z, qb_t, qb_f, nI_ne0', Nat.reduceAdd, Bool.false_eq_true, if_false, if_true, true_and, and_true, Nat.reduceEqDiff, not_true_eq_false, not_false_eq_true, false_implies, true_implies, ite_true, ite_false]
            exact no σ6 e (by simp only [eS, hr, he, zbd_l, zbd_r]) hfe F6
          · simp (disch := omega) only [nI_leI, nI_ltI, nI_eq, nI_cl, qin_eq, nI_add, nI_mul, qb_z, qb_t, qb_f, nI_ne0', Nat.reduceAdd, Bool.false_eq_true, if_false, if_true, true_and, and_true, Nat.reduceEqDiff, not_true_eq_false, not_false_eq_true, false_implies, true_implies, ite_true, ite_false]
            refine nx _ _ σ6 ⟨zXo_r (a := (zpush s (tkY B p) r.1, u)) (by simp only [eS, hr, hu, zbd_r]) rfl ⟨d6, ?_⟩, F6⟩
            exact (J5.t f6).push s5.2.2 hb.1 gE
