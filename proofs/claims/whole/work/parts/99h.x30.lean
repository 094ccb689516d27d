/-! the class: a camp is read -/
def zPcq (a j : Nat) : Prop := (a = 50 ∧ 2 ≤ j ∧ j ≤ 12) ∨ (a = 53 ∧ (j = 2 ∨ j = 3)) ∨ (54 ≤ a ∧ a ≤ 65)
theorem zPcr_q {σ σ' : qSg} (f : zG zPcr zRcr σ σ') : zG zPcq zRcr σ σ' := f.wk (fun a j h => by unfold zPcr at h; unfold zPcq; omega) (fun _ _ h => h)
theorem zkc_t {y : Nat} (hy : y ≤ 22) : (zkc y).toInt = if y < 22 then (zkn y : Int) else -1 := by
  unfold zkc
  split
  · next h =>
    have := zkn_lt h
    exact nI_t (by omega)
  · exact iI_toInt (by decide) (by decide)
theorem zkn_4 : ∀ y, y < 22 → (zkn y = 0 ↔ y = 0) ∧ (zkn y = 2 ↔ y = 1) ∧ (zkn y = 3 ↔ y = 2) ∧ (zkn y = 8 ↔ y = 3) := by decide +kernel
def zXq (B : Nat → Nat) (σ : qSg) (v : Int32) (σ' : qSg) : Prop := zXo (zrdC B) v σ' (fun s => zXs σ' s ∧ zSW s ∧ σ'.1 50 11 = nI 0 ∧ σ'.1 50 12 = iI (-1)) ∧ zG zPcq zRcr σ σ'
set_option maxRecDepth 20000 in
theorem x_takeInC {σ : qSg} {B : Nat → Nat} {n : Nat} (hB : zBW B n) (ht : ∀ k, k < n → σ.1 51 k = zby (B k)) (hw : zXw σ) : qCI 7 34 [qr 53, qi (nI n)] σ (zXq B σ) := by
  have h900 := hB.1
  refine qCI.of [some (qr 53), some (qi (nI n)), none, none] ok_34 (Nat.le_of_ble_eq_true rfl) rfl ?_
  refine qV.go 30 [29] ok_34 ?_
  simp only [qW_nop, qW_iconst, qW_sipush, qW_iloadn, qW_aloadn, qW_istoren, qW_iinc, qW_ifeq, qW_ifne, qW_icgt, qW_goto, qW_tsw, qW_getf, qW_cv1_0, qW_cv1_2, qW_cv2_2, qW_iret1, qW_putf3, Nat.reduceAdd, Nat.reduceMul, Nat.reduceBEq, Nat.reduceEqDiff, Nat.reduceLT, Nat.reduceLeDiff, Nat.zero_le, nI_add, nI_mul, nI_cl, qin_eq, qofI, qlg_0, qlg_s, qls_i0, qls_r0, qls_l0, qls_1, qls_2, qkl_i, qkl_r, qkl_l, qkl_n, qIsI_i, qIsL_l, qIsR_r, qint_i, qil_i, qil_r, qil_l, qf4_0, qf4_1, qf4_2, qf4_3, qf2_0, qf2_1, qcs_n, qcs_i, qcs_r, qcs_l, qst_n, qst_c, qJ_0, qJ_st, qJ_go, qfl_I, qfl_Z, qfl_L, qfl_R, qrI_i, qrL_l, qrV_v, qRcv_0, qRcv_s, eq_self, true_and, and_true, true_or, or_true, false_and, and_false, false_or, or_false, ite_true, if_true, if_false, Bool.true_or, Bool.false_or, Bool.or_false, beq_self_eq_true, Bool.false_eq_true, bX2_takeIn_0, bX2_takeIn_29, bX2_takeIn_108, bX2_takeIn_116, bX2_takeIn_124, bX2_takeIn_132, bX2_takeIn_140, bX2_takeIn_148, bX2_takeIn_154, kX2_takeIn_0, kX2_takeIn_29, kX2_takeIn_108, kX2_takeIn_116, kX2_takeIn_124, kX2_takeIn_132, kX2_takeIn_140, kX2_takeIn_148, kX2_takeIn_154, qK_53, qR_53_0, qK_50, qR_53_1, qK_54, qK_54, qR_54_6, qK_55, qR_54_7, qK_56, qR_54_8, qK_57, qR_54_9, qK_58, qR_54_10, qK_59, qR_54_11, qK_60, qR_54_12, qK_61, qR_54_13, qK_62, qR_54_14, qK_63, qR_54_15, qK_64, qR_54_16, qK_65, qK_50, qR_50_0, qK_51, qR_50_13, qK_52]
  refine qBV.of (x_empty zCb_d) (by decide) (fun σ0 g0 => ?_)
  obtain ⟨X0, f0⟩ := g0
  have F0 : zG zPcq zRcr σ (qwi (qwi σ0 53 2 (nI 0)) 53 3 (nI 0)) := ((f0.g fun a j hh => Or.inr (Or.inr ⟨by omega, by omega⟩)).tr (zG.wi (Or.inr (Or.inl ⟨rfl, Or.inl rfl⟩)))).tr (zG.wi (Or.inr (Or.inl ⟨rfl, Or.inr rfl⟩)))
  have X1 : zX (qwi (qwi σ0 53 2 (nI 0)) 53 3 (nI 0)) 54 zC0 := X0.fr fun a j h1 h2 => by rw [qwi_1, if_neg (by omega), qwi_1, if_neg (by omega)]
  have n1 : (qwi (qwi σ0 53 2 (nI 0)) 53 3 (nI 0)).1 53 2 = qb false := by rw [qwi_1, if_neg (by decide), qwi_1, if_pos ⟨rfl, rfl⟩]; rfl
  have o1 : (qwi (qwi σ0 53 2 (nI 0)) 53 3 (nI 0)).1 53 3 = qb false := by rw [qwi_1, if_pos ⟨rfl, rfl⟩]; rfl
  have t1 : ∀ k, k < n → (qwi (qwi σ0 53 2 (nI 0)) 53 3 (nI 0)).1 51 k = zby (B k) := fun k hk => by rw [F0.1 _ _ (by unfold zPcq; omega)]; exact ht k hk
  have w1 : zXw (qwi (qwi σ0 53 2 (nI 0)) 53 3 (nI 0)) := fun i hi => by rw [F0.2 _ _ (by unfold zRcr; omega)]; exact hw i hi
  generalize qwi (qwi σ0 53 2 (nI 0)) 53 3 (nI 0) = σ1 at F0 X1 n1 o1 t1 w1 ⊢
  refine qBV.of (x_open hB t1 w1) (by decide) (fun σ2 g2 => ?_)
  obtain ⟨d2, f2⟩ := g2
  have F2 : zG zPcq zRcr σ σ2 := F0.tr (f2.wk (fun a j hh => Or.inl hh) (fun a j hh => Or.inl hh))
  have S2 : zXs σ2 (zC0, fun _ => [], false, false) := by
    refine ⟨X1.fr fun a j h1 h2 => f2.1 a j (by omega), fun b hb => absurd hb (Nat.not_lt_zero _), ⟨false, ?_, rfl⟩, ?_⟩
    · rw [f2.1 _ _ (by omega)]; exact n1
    · rw [f2.1 _ _ (by omega)]; exact o1
  refine qdown (n := 900) (P := fun i => ∀ p s σ3, i ≤ p → p ≤ n → zXd σ3 B n p → zXs σ3 s → zSW s → zrdC B = zpCamp B (1000 - i) s p → zG zPcq zRcr σ σ3 → qV 34 7 (.inl (zXq B σ)) 29 [some (qr 53), some (qi (nI n)), some (qi (nI 1)), some (qi (nI i))] [] σ3) (fun i hi ih => ?_) 0 (Nat.zero_le _) 0 _ σ2 (Nat.zero_le _) (Nat.zero_le _) d2 S2 zSW_0 rfl F2
  clear d2 F2 S2 f2 X1 n1 o1 t1 w1 F0 f0 X0
  intro p s σ3 hip hp d3 S3 W3 eR F3
  have hy := tkY_le B p
  refine qV.go 30 [29, 108, 116, 124, 132, 140, 148, 154] ok_34 ?_
  simp only [qW_nop, qW_iconst, qW_sipush, qW_iloadn, qW_aloadn, qW_istoren, qW_iinc, qW_ifeq, qW_ifne, qW_icgt, qW_goto, qW_tsw, qW_getf, qW_cv1_0, qW_cv1_2, qW_cv2_2, qW_iret1, qW_putf3, Nat.reduceAdd, Nat.reduceMul, Nat.reduceBEq, Nat.reduceEqDiff, Nat.reduceLT, Nat.reduceLeDiff, Nat.zero_le, nI_add, nI_mul, nI_cl, qin_eq, qofI, qlg_0, qlg_s, qls_i0, qls_r0, qls_l0, qls_1, qls_2, qkl_i, qkl_r, qkl_l, qkl_n, qIsI_i, qIsL_l, qIsR_r, qint_i, qil_i, qil_r, qil_l, qf4_0, qf4_1, qf4_2, qf4_3, qf2_0, qf2_1, qcs_n, qcs_i, qcs_r, qcs_l, qst_n, qst_c, qJ_0, qJ_st, qJ_go, qfl_I, qfl_Z, qfl_L, qfl_R, qrI_i, qrL_l, qrV_v, qRcv_0, qRcv_s, eq_self, true_and, and_true, true_or, or_true, false_and, and_false, false_or, or_false, ite_true, if_true, if_false, Bool.true_or, Bool.false_or, Bool.or_false, beq_self_eq_true, Bool.false_eq_true, bX2_takeIn_0, bX2_takeIn_29, bX2_takeIn_108, bX2_takeIn_116, bX2_takeIn_124, bX2_takeIn_132, bX2_takeIn_140, bX2_takeIn_148, bX2_takeIn_154, kX2_takeIn_0, kX2_takeIn_29, kX2_takeIn_108, kX2_takeIn_116, kX2_takeIn_124, kX2_takeIn_132, kX2_takeIn_140, kX2_takeIn_148, kX2_takeIn_154, qK_53, qR_53_0, qK_50, qR_53_1, qK_54, qK_54, qR_54_6, qK_55, qR_54_7, qK_56, qR_54_8, qK_57, qR_54_9, qK_58, qR_54_10, qK_59, qR_54_11, qK_60, qR_54_12, qK_61, qR_54_13, qK_62, qR_54_14, qK_63, qR_54_15, qK_64, qR_54_16, qK_65, qK_50, qR_50_0, qK_51, qR_50_13, qK_52]
  simp (disch := omega) only [nI_leI, nI_ltI, nI_eq, nI_cl, qin_eq, nI_add, nI_mul, qb_z, qb_t, qb_f, nI_ne0', Nat.reduceAdd, Bool.false_eq_true, if_false, if_true, true_and, and_true, Nat.reduceEqDiff, not_true_eq_false, not_false_eq_true, false_implies, true_implies, ite_true, ite_false]
  refine ⟨fun g => absurd (show i ≤ 900 by omega) (by omega), fun _ => ?_⟩
  refine qBI.fn (x_atEnd d3) (by decide) ?_
  obtain ⟨f, hf⟩ : ∃ f, 1000 - i = f + 1 := ⟨1000 - i - 1, by omega⟩
  rw [hf, zpCamp] at eR
  simp (disch := omega) only [nI_leI, nI_ltI, nI_eq, nI_cl, qin_eq, nI_add, nI_mul, qb_z, qb_t, qb_f, nI_ne0', Nat.reduceAdd, Bool.false_eq_true, if_false, if_true, true_and, and_true, Nat.reduceEqDiff, not_true_eq_false, not_false_eq_true, false_implies, true_implies, ite_true, ite_false, Bool.not_eq_false, Bool.not_eq_true]
  simp only [decide_eq_true_eq, decide_eq_false_iff_not]
  refine And.symm ⟨fun g0 => ?_, fun g0 => ?_⟩
  · -- a part
    rw [if_neg g0] at eR
    -- behind it
    have nx : ∀ (v : Int32) (σ4 : qSg), zXp B n s p σ3 v σ4 → qV 34 7 (.inl (zXq B σ)) 148 [some (qr 53), some (qi (nI n)), some (qi v), some (qi (nI i))] [] σ4 := by
      intro v σ4 g4
      obtain ⟨g4, f4⟩ := g4
      have F4 := F3.tr (zPcr_q f4)
      rcases zXo_c g4 with ⟨e, he, rfl, hfe⟩ | ⟨r, hr, rfl, d4, S4⟩
      · -- a fault
        have fin : ∀ j, qV 34 7 (.inl (zXq B σ)) 154 [some (qr 53), some (qi (nI n)), some (qi (nI 0)), some (qi (nI j))] [] σ4 := by
          intro j
          refine qV.go 30 [9999] ok_34 ?_
          simp only [qW_nop, qW_iconst, qW_sipush, qW_iloadn, qW_aloadn, qW_istoren, qW_iinc, qW_ifeq, qW_ifne, qW_icgt, qW_goto, qW_tsw, qW_getf, qW_cv1_0, qW_cv1_2, qW_cv2_2, qW_iret1, qW_putf3, Nat.reduceAdd, Nat.reduceMul, Nat.reduceBEq, Nat.reduceEqDiff, Nat.reduceLT, Nat.reduceLeDiff, Nat.zero_le, nI_add, nI_mul, nI_cl, qin_eq, qofI, qlg_0, qlg_s, qls_i0, qls_r0, qls_l0, qls_1, qls_2, qkl_i, qkl_r, qkl_l, qkl_n, qIsI_i, qIsL_l, qIsR_r, qint_i, qil_i, qil_r, qil_l, qf4_0, qf4_1, qf4_2, qf4_3, qf2_0, qf2_1, qcs_n, qcs_i, qcs_r, qcs_l, qst_n, qst_c, qJ_0, qJ_st, qJ_go, qfl_I, qfl_Z, qfl_L, qfl_R, qrI_i, qrL_l, qrV_v, qRcv_0, qRcv_s, eq_self, true_and, and_true, true_or, or_true, false_and, and_false, false_or, or_false, ite_true, if_true, if_false, Bool.true_or, Bool.false_or, Bool.or_false, beq_self_eq_true, Bool.false_eq_true, bX2_takeIn_0, bX2_takeIn_29, bX2_takeIn_108, bX2_takeIn_116, bX2_takeIn_124, bX2_takeIn_132, bX2_takeIn_140, bX2_takeIn_148, bX2_takeIn_154, kX2_takeIn_0, kX2_takeIn_29, kX2_takeIn_108, kX2_takeIn_116, kX2_takeIn_124, kX2_takeIn_132, kX2_takeIn_140, kX2_takeIn_148, kX2_takeIn_154, qK_53, qR_53_0, qK_50, qR_53_1, qK_54]
          exact ⟨zXo_l (by rw [eR, he]; rfl) rfl hfe, F4⟩
        refine qV.go 30 [154] ok_34 ?_
        simp only [qW_nop, qW_iconst, qW_sipush, qW_iloadn, qW_aloadn, qW_istoren, qW_iinc, qW_ifeq, qW_ifne, qW_icgt, qW_goto, qW_tsw, qW_getf, qW_cv1_0, qW_cv1_2, qW_cv2_2, qW_iret1, qW_putf3, Nat.reduceAdd, Nat.reduceMul, Nat.reduceBEq, Nat.reduceEqDiff, Nat.reduceLT, Nat.reduceLeDiff, Nat.zero_le, nI_add, nI_mul, nI_cl, qin_eq, qofI, qlg_0, qlg_s, qls_i0, qls_r0, qls_l0, qls_1, qls_2, qkl_i, qkl_r, qkl_l, qkl_n, qIsI_i, qIsL_l, qIsR_r, qint_i, qil_i, qil_r, qil_l, qf4_0, qf4_1, qf4_2, qf4_3, qf2_0, qf2_1, qcs_n, qcs_i, qcs_r, qcs_l, qst_n, qst_c, qJ_0, qJ_st, qJ_go, qfl_I, qfl_Z, qfl_L, qfl_R, qrI_i, qrL_l, qrV_v, qRcv_0, qRcv_s, eq_self, true_and, and_true, true_or, or_true, false_and, and_false, false_or, or_false, ite_true, if_true, if_false, Bool.true_or, Bool.false_or, Bool.or_false, beq_self_eq_true, Bool.false_eq_true, bX2_takeIn_0, bX2_takeIn_29, bX2_takeIn_108, bX2_takeIn_116, bX2_takeIn_124, bX2_takeIn_132, bX2_takeIn_140, bX2_takeIn_148, bX2_takeIn_154, kX2_takeIn_0, kX2_takeIn_29, kX2_takeIn_108, kX2_takeIn_116, kX2_takeIn_124, kX2_takeIn_132, kX2_takeIn_140, kX2_takeIn_148, kX2_takeIn_154, qK_53, qR_53_0, qK_50, qR_53_1, qK_54]
        simp (disch := omega) only [nI_leI, nI_ltI, nI_eq, nI_cl, qin_eq, nI_add, nI_mul, qb_z, qb_t, qb_f, nI_ne0', Nat.reduceAdd, Bool.false_eq_true, if_false, if_true, true_and, and_true, Nat.reduceEqDiff, not_true_eq_false, not_false_eq_true, false_implies, true_implies, ite_true, ite_false]
        exact ⟨fun _ => fin _, fun _ => fin _⟩
      · have st := zpPart_inr hB hp W3 hr
        refine qV.go 30 [29] ok_34 ?_
        simp only [qW_nop, qW_iconst, qW_sipush, qW_iloadn, qW_aloadn, qW_istoren, qW_iinc, qW_ifeq, qW_ifne, qW_icgt, qW_goto, qW_tsw, qW_getf, qW_cv1_0, qW_cv1_2, qW_cv2_2, qW_iret1, qW_putf3, Nat.reduceAdd, Nat.reduceMul, Nat.reduceBEq, Nat.reduceEqDiff, Nat.reduceLT, Nat.reduceLeDiff, Nat.zero_le, nI_add, nI_mul, nI_cl, qin_eq, qofI, qlg_0, qlg_s, qls_i0, qls_r0, qls_l0, qls_1, qls_2, qkl_i, qkl_r, qkl_l, qkl_n, qIsI_i, qIsL_l, qIsR_r, qint_i, qil_i, qil_r, qil_l, qf4_0, qf4_1, qf4_2, qf4_3, qf2_0, qf2_1, qcs_n, qcs_i, qcs_r, qcs_l, qst_n, qst_c, qJ_0, qJ_st, qJ_go, qfl_I, qfl_Z, qfl_L, qfl_R, qrI_i, qrL_l, qrV_v, qRcv_0, qRcv_s, eq_self, true_and, and_true, true_or, or_true, false_and, and_false, false_or, or_false, ite_true, if_true, if_false, Bool.true_or, Bool.false_or, Bool.or_false, beq_self_eq_true, Bool.false_eq_true, bX2_takeIn_0, bX2_takeIn_29, bX2_takeIn_108, bX2_takeIn_116, bX2_takeIn_124, bX2_takeIn_132, bX2_takeIn_140, bX2_takeIn_148, bX2_takeIn_154, kX2_takeIn_0, kX2_takeIn_29, kX2_takeIn_108, kX2_takeIn_116, kX2_takeIn_124, kX2_takeIn_132, kX2_takeIn_140, kX2_takeIn_148, kX2_takeIn_154, qK_53, qR_53_0, qK_50, qR_53_1, qK_54]
        refine ih (by omega) r.2 r.1 σ4 (by omega) st.2.1 d4 S4 st.2.2 ?_ F4
        rw [eR, hr, zbd_r, show 1000 - (i + 1) = f by omega]
    have none' : ¬ tkY B p = 0 → ¬ tkY B p = 1 → ¬ tkY B p = 2 → ¬ tkY B p = 3 → qV 34 7 (.inl (zXq B σ)) 140 [some (qr 53), some (qi (nI n)), some (qi (nI 1)), some (qi (nI i))] [] σ3 := by
      intro a0 a1 a2 a3
      refine qV.go 30 [148] ok_34 ?_
      simp only [qW_nop, qW_iconst, qW_sipush, qW_iloadn, qW_aloadn, qW_istoren, qW_iinc, qW_ifeq, qW_ifne, qW_icgt, qW_goto, qW_tsw, qW_getf, qW_cv1_0, qW_cv1_2, qW_cv2_2, qW_iret1, qW_putf3, Nat.reduceAdd, Nat.reduceMul, Nat.reduceBEq, Nat.reduceEqDiff, Nat.reduceLT, Nat.reduceLeDiff, Nat.zero_le, nI_add, nI_mul, nI_cl, qin_eq, qofI, qlg_0, qlg_s, qls_i0, qls_r0, qls_l0, qls_1, qls_2, qkl_i, qkl_r, qkl_l, qkl_n, qIsI_i, qIsL_l, qIsR_r, qint_i, qil_i, qil_r, qil_l, qf4_0, qf4_1, qf4_2, qf4_3, qf2_0, qf2_1, qcs_n, qcs_i, qcs_r, qcs_l, qst_n, qst_c, qJ_0, qJ_st, qJ_go, qfl_I, qfl_Z, qfl_L, qfl_R, qrI_i, qrL_l, qrV_v, qRcv_0, qRcv_s, eq_self, true_and, and_true, true_or, or_true, false_and, and_false, false_or, or_false, ite_true, if_true, if_false, Bool.true_or, Bool.false_or, Bool.or_false, beq_self_eq_true, Bool.false_eq_true, bX2_takeIn_0, bX2_takeIn_29, bX2_takeIn_108, bX2_takeIn_116, bX2_takeIn_124, bX2_takeIn_132, bX2_takeIn_140, bX2_takeIn_148, bX2_takeIn_154, kX2_takeIn_0, kX2_takeIn_29, kX2_takeIn_108, kX2_takeIn_116, kX2_takeIn_124, kX2_takeIn_132, kX2_takeIn_140, kX2_takeIn_148, kX2_takeIn_154, qK_53, qR_53_0, qK_50, qR_53_1, qK_54, qK_50, qR_50_0, qK_51, qR_50_13, qK_52]
      refine qBI.of (x_cannot d3) (by decide) (fun v σ4 g4 => ?_)
      obtain ⟨rfl, g4, f4⟩ := g4
      refine nx _ σ4 ⟨zXo_l (by unfold zpPart zpPart0; rw [if_neg a0, if_neg a1, if_neg a2, if_neg a3]; rfl) rfl g4, zPxt_c f4⟩
    have key : ((zkc (tkY B p)).toInt = 0 ↔ tkY B p = 0) ∧ ((zkc (tkY B p)).toInt = 2 ↔ tkY B p = 1) ∧ ((zkc (tkY B p)).toInt = 3 ↔ tkY B p = 2) ∧ ((zkc (tkY B p)).toInt = 8 ↔ tkY B p = 3) := by
      rw [zkc_t hy]
      by_cases h22 : tkY B p < 22
      · have := zkn_4 _ h22
        rw [if_pos h22]
        omega
      · rw [if_neg h22]
        omega
    rw [d3.1.2.2.2.2.1, qsw]
    simp only [qsl]
    refine ⟨fun g => ?_, fun g => ?_, fun g => ?_, fun g => ?_, fun g => ?_, fun g => ?_, fun g => ?_, fun g => ?_, fun g => ?_, fun g => ?_, trivial⟩
    · rw [qJ_st _ _ _ _ _ (by rfl)]
      exact none' (by omega) (by omega) (by omega) (by omega)
    · rw [qJ_st _ _ _ _ _ (by rfl)]
      refine qV.go 30 [148] ok_34 ?_
      simp only [qW_nop, qW_iconst, qW_sipush, qW_iloadn, qW_aloadn, qW_istoren, qW_iinc, qW_ifeq, qW_ifne, qW_icgt, qW_goto, qW_tsw, qW_getf, qW_cv1_0, qW_cv1_2, qW_cv2_2, qW_iret1, qW_putf3, Nat.reduceAdd, Nat.reduceMul, Nat.reduceBEq, Nat.reduceEqDiff, Nat.reduceLT, Nat.reduceLeDiff, Nat.zero_le, nI_add, nI_mul, nI_cl, qin_eq, qofI, qlg_0, qlg_s, qls_i0, qls_r0, qls_l0, qls_1, qls_2, qkl_i, qkl_r, qkl_l, qkl_n, qIsI_i, qIsL_l, qIsR_r, qint_i, qil_i, qil_r, qil_l, qf4_0, qf4_1, qf4_2, qf4_3, qf2_0, qf2_1, qcs_n, qcs_i, qcs_r, qcs_l, qst_n, qst_c, qJ_0, qJ_st, qJ_go, qfl_I, qfl_Z, qfl_L, qfl_R, qrI_i, qrL_l, qrV_v, qRcv_0, qRcv_s, eq_self, true_and, and_true, true_or, or_true, false_and, and_false, false_or, or_false, ite_true, if_true, if_false, Bool.true_or, Bool.false_or, Bool.or_false, beq_self_eq_true, Bool.false_eq_true, bX2_takeIn_0, bX2_takeIn_29, bX2_takeIn_108, bX2_takeIn_116, bX2_takeIn_124, bX2_takeIn_132, bX2_takeIn_140, bX2_takeIn_148, bX2_takeIn_154, kX2_takeIn_0, kX2_takeIn_29, kX2_takeIn_108, kX2_takeIn_116, kX2_takeIn_124, kX2_takeIn_132, kX2_takeIn_140, kX2_takeIn_148, kX2_takeIn_154, qK_53, qR_53_0, qK_50, qR_53_1, qK_54, qK_50, qR_50_0, qK_51, qR_50_13, qK_52]
      exact qBI.of (x_takeField hB hp d3 S3 W3 (by omega)) (by decide) (fun v σ4 g4 => nx v σ4 g4)
    · rw [qJ_st _ _ _ _ _ (by rfl)]
      exact none' (by omega) (by omega) (by omega) (by omega)
    · rw [qJ_st _ _ _ _ _ (by rfl)]
      refine qV.go 30 [148] ok_34 ?_
      simp only [qW_nop, qW_iconst, qW_sipush, qW_iloadn, qW_aloadn, qW_istoren, qW_iinc, qW_ifeq, qW_ifne, qW_icgt, qW_goto, qW_tsw, qW_getf, qW_cv1_0, qW_cv1_2, qW_cv2_2, qW_iret1, qW_putf3, Nat.reduceAdd, Nat.reduceMul, Nat.reduceBEq, Nat.reduceEqDiff, Nat.reduceLT, Nat.reduceLeDiff, Nat.zero_le, nI_add, nI_mul, nI_cl, qin_eq, qofI, qlg_0, qlg_s, qls_i0, qls_r0, qls_l0, qls_1, qls_2, qkl_i, qkl_r, qkl_l, qkl_n, qIsI_i, qIsL_l, qIsR_r, qint_i, qil_i, qil_r, qil_l, qf4_0, qf4_1, qf4_2, qf4_3, qf2_0, qf2_1, qcs_n, qcs_i, qcs_r, qcs_l, qst_n, qst_c, qJ_0, qJ_st, qJ_go, qfl_I, qfl_Z, qfl_L, qfl_R, qrI_i, qrL_l, qrV_v, qRcv_0, qRcv_s, eq_self, true_and, and_true, true_or, or_true, false_and, and_false, false_or, or_false, ite_true, if_true, if_false, Bool.true_or, Bool.false_or, Bool.or_false, beq_self_eq_true, Bool.false_eq_true, bX2_takeIn_0, bX2_takeIn_29, bX2_takeIn_108, bX2_takeIn_116, bX2_takeIn_124, bX2_takeIn_132, bX2_takeIn_140, bX2_takeIn_148, bX2_takeIn_154, kX2_takeIn_0, kX2_takeIn_29, kX2_takeIn_108, kX2_takeIn_116, kX2_takeIn_124, kX2_takeIn_132, kX2_takeIn_140, kX2_takeIn_148, kX2_takeIn_154, qK_53, qR_53_0, qK_50, qR_53_1, qK_54, qK_50, qR_50_0, qK_51, qR_50_13, qK_52]
      exact qBI.of (x_takeOdds hB hp d3 S3 W3 (by omega)) (by decide) (fun v σ4 g4 => nx v σ4 g4)
    · rw [qJ_st _ _ _ _ _ (by rfl)]
      refine qV.go 30 [148] ok_34 ?_
      simp only [qW_nop, qW_iconst, qW_sipush, qW_iloadn, qW_aloadn, qW_istoren, qW_iinc, qW_ifeq, qW_ifne, qW_icgt, qW_goto, qW_tsw, qW_getf, qW_cv1_0, qW_cv1_2, qW_cv2_2, qW_iret1, qW_putf3, Nat.reduceAdd, Nat.reduceMul, Nat.reduceBEq, Nat.reduceEqDiff, Nat.reduceLT, Nat.reduceLeDiff, Nat.zero_le, nI_add, nI_mul, nI_cl, qin_eq, qofI, qlg_0, qlg_s, qls_i0, qls_r0, qls_l0, qls_1, qls_2, qkl_i, qkl_r, qkl_l, qkl_n, qIsI_i, qIsL_l, qIsR_r, qint_i, qil_i, qil_r, qil_l, qf4_0, qf4_1, qf4_2, qf4_3, qf2_0, qf2_1, qcs_n, qcs_i, qcs_r, qcs_l, qst_n, qst_c, qJ_0, qJ_st, qJ_go, qfl_I, qfl_Z, qfl_L, qfl_R, qrI_i, qrL_l, qrV_v, qRcv_0, qRcv_s, eq_self, true_and, and_true, true_or, or_true, false_and, and_false, false_or, or_false, ite_true, if_true, if_false, Bool.true_or, Bool.false_or, Bool.or_false, beq_self_eq_true, Bool.false_eq_true, bX2_takeIn_0, bX2_takeIn_29, bX2_takeIn_108, bX2_takeIn_116, bX2_takeIn_124, bX2_takeIn_132, bX2_takeIn_140, bX2_takeIn_148, bX2_takeIn_154, kX2_takeIn_0, kX2_takeIn_29, kX2_takeIn_108, kX2_takeIn_116, kX2_takeIn_124, kX2_takeIn_132, kX2_takeIn_140, kX2_takeIn_148, kX2_takeIn_154, qK_53, qR_53_0, qK_50, qR_53_1, qK_54, qK_50, qR_50_0, qK_51, qR_50_13, qK_52]
      exact qBI.of (x_takeBoyC hB hp d3 S3 W3 (by omega)) (by decide) (fun v σ4 g4 => nx v σ4 g4)
    · rw [qJ_st _ _ _ _ _ (by rfl)]
      exact none' (by omega) (by omega) (by omega) (by omega)
    · rw [qJ_st _ _ _ _ _ (by rfl)]
      exact none' (by omega) (by omega) (by omega) (by omega)
    · rw [qJ_st _ _ _ _ _ (by rfl)]
      exact none' (by omega) (by omega) (by omega) (by omega)
    · rw [qJ_st _ _ _ _ _ (by rfl)]
      exact none' (by omega) (by omega) (by omega) (by omega)
    · rw [qJ_st _ _ _ _ _ (by rfl)]
      refine qV.go 30 [148] ok_34 ?_
      simp only [qW_nop, qW_iconst, qW_sipush, qW_iloadn, qW_aloadn, qW_istoren, qW_iinc, qW_ifeq, qW_ifne, qW_icgt, qW_goto, qW_tsw, qW_getf, qW_cv1_0, qW_cv1_2, qW_cv2_2, qW_iret1, qW_putf3, Nat.reduceAdd, Nat.reduceMul, Nat.reduceBEq, Nat.reduceEqDiff, Nat.reduceLT, Nat.reduceLeDiff, Nat.zero_le, nI_add, nI_mul, nI_cl, qin_eq, qofI, qlg_0, qlg_s, qls_i0, qls_r0, qls_l0, qls_1, qls_2, qkl_i, qkl_r, qkl_l, qkl_n, qIsI_i, qIsL_l, qIsR_r, qint_i, qil_i, qil_r, qil_l, qf4_0, qf4_1, qf4_2, qf4_3, qf2_0, qf2_1, qcs_n, qcs_i, qcs_r, qcs_l, qst_n, qst_c, qJ_0, qJ_st, qJ_go, qfl_I, qfl_Z, qfl_L, qfl_R, qrI_i, qrL_l, qrV_v, qRcv_0, qRcv_s, eq_self, true_and, and_true, true_or, or_true, false_and, and_false, false_or, or_false, ite_true, if_true, if_false, Bool.true_or, Bool.false_or, Bool.or_false, beq_self_eq_true, Bool.false_eq_true, bX2_takeIn_0, bX2_takeIn_29, bX2_takeIn_108, bX2_takeIn_116, bX2_takeIn_124, bX2_takeIn_132, bX2_takeIn_140, bX2_takeIn_148, bX2_takeIn_154, kX2_takeIn_0, kX2_takeIn_29, kX2_takeIn_108, kX2_takeIn_116, kX2_takeIn_124, kX2_takeIn_132, kX2_takeIn_140, kX2_takeIn_148, kX2_takeIn_154, qK_53, qR_53_0, qK_50, qR_53_1, qK_54, qK_50, qR_50_0, qK_51, qR_50_13, qK_52]
      exact qBI.of (x_takeQuarrelC hB hp d3 S3 W3 (by omega)) (by decide) (fun v σ4 g4 => nx v σ4 g4)
  · -- the end
    rw [if_pos g0] at eR
    refine qV.go 30 [9999] ok_34 ?_
    simp only [qW_nop, qW_iconst, qW_sipush, qW_iloadn, qW_aloadn, qW_istoren, qW_iinc, qW_ifeq, qW_ifne, qW_icgt, qW_goto, qW_tsw, qW_getf, qW_cv1_0, qW_cv1_2, qW_cv2_2, qW_iret1, qW_putf3, Nat.reduceAdd, Nat.reduceMul, Nat.reduceBEq, Nat.reduceEqDiff, Nat.reduceLT, Nat.reduceLeDiff, Nat.zero_le, nI_add, nI_mul, nI_cl, qin_eq, qofI, qlg_0, qlg_s, qls_i0, qls_r0, qls_l0, qls_1, qls_2, qkl_i, qkl_r, qkl_l, qkl_n, qIsI_i, qIsL_l, qIsR_r, qint_i, qil_i, qil_r, qil_l, qf4_0, qf4_1, qf4_2, qf4_3, qf2_0, qf2_1, qcs_n, qcs_i, qcs_r, qcs_l, qst_n, qst_c, qJ_0, qJ_st, qJ_go, qfl_I, qfl_Z, qfl_L, qfl_R, qrI_i, qrL_l, qrV_v, qRcv_0, qRcv_s, eq_self, true_and, and_true, true_or, or_true, false_and, and_false, false_or, or_false, ite_true, if_true, if_false, Bool.true_or, Bool.false_or, Bool.or_false, beq_self_eq_true, Bool.false_eq_true, bX2_takeIn_0, bX2_takeIn_29, bX2_takeIn_108, bX2_takeIn_116, bX2_takeIn_124, bX2_takeIn_132, bX2_takeIn_140, bX2_takeIn_148, bX2_takeIn_154, kX2_takeIn_0, kX2_takeIn_29, kX2_takeIn_108, kX2_takeIn_116, kX2_takeIn_124, kX2_takeIn_132, kX2_takeIn_140, kX2_takeIn_148, kX2_takeIn_154, qK_53, qR_53_0, qK_50, qR_53_1, qK_54]
    exact ⟨zXo_r eR rfl ⟨S3, W3, d3.2.1, d3.2.2⟩, F3⟩
