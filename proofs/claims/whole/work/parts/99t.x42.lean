/-! the class's calls: what was seen -/
theorem zXA.pf {σ σ' : qSg} {A : zA} {P : Nat → Nat → Prop} (h : zXA σ A) (hW : zAW A) (f : zF P σ σ') (hP : ∀ a j, P a j → a < 139 ∧ ¬ zXp1 a j) : zXA σ' A ∧ zCls σ σ' :=
  h.pl hW (R := fun _ _ => False) ⟨f.1, fun a j _ => by rw [f.2]⟩ hP (fun a j h => False.elim h)
theorem zT_l {T : zT} {t : Nat} (ht : t < 4) : zlaid T (nI t) = (T.2.1 t).isSome := by
  unfold zlaid
  rw [zrg_k ht (by decide), nI_tn (by omega)]
  rfl
theorem zT_h {T : zT} {t n : Nat} (ht : t < 4) (hn : n ≤ 20) {m : Nat} (hm : T.2.1 t = some m) : zhold T (nI t) (nI 0) (nI (2 * n)) = decide (2 * n ≤ m) := by
  unfold zhold zsz
  rw [zT_l ht, hm, nI_t (by omega), nI_t (by omega), nI_tn (by omega), hm]
  have : (((0 : Nat) : Int) + ((2 * n : Nat) : Int) ≤ ((some m).getD 0 : Nat)) ↔ 2 * n ≤ m := by
    show (((0 : Nat) : Int) + ((2 * n : Nat) : Int) ≤ ((m : Nat) : Int)) ↔ 2 * n ≤ m
    omega
  rw [decide_eq_decide.mpr this, decide_eq_true (by omega), decide_eq_true (by omega)]
  rfl
theorem x_within8 (σ : qSg) (v : Int64) {m : Nat} (h0 : 0 < m) (h1 : m ≤ 8) : qFI 1 138 [ql v, ql (lN 0), ql (nI (m - 1)).toInt64] σ (qb (zrl v m)) := by
  have := x_within σ v (lN 0) (nI (m - 1)).toInt64
  rw [lN_t (by decide), qi2l, nI_t (by omega)] at this
  have e : (decide (((0 : Nat) : Int) ≤ v.toInt) && decide (v.toInt ≤ ((m - 1 : Nat) : Int))) = zrl v m := by
    unfold zrl
    rw [decide_eq_decide.mpr (show v.toInt ≤ ((m - 1 : Nat) : Int) ↔ v.toInt < (m : Int) by omega)]
    rfl
  rw [e] at this
  exact this
set_option maxRecDepth 20000 in
theorem X_clueStatus {σ : qSg} {A : zA} (hA : zXA σ A) (hW : zAW A) (b t n : Int32) : qFI 5 191 [qr 0, qi b, qi t, qi n] σ (nI (zwrong (aC A) (aT A) b t n)) := by
  have hX := hA.x
  have hw := hW.w
  have wb := hw.1
  have hT := hA.2.2.1
  have wT := hW.2.2.2.1
  refine qCI.of [some (qr 0), some (qi b), some (qi t), some (qi n), none, none] ok_191 (Nat.le_of_ble_eq_true rfl) rfl ?_
  have no : (zrg b (aC A 0 0) && zrg t 4 && zih n 0 20) = false → qV 191 5 (.inl (fun r σ' => r = nI (zwrong (aC A) (aT A) b t n) ∧ σ' = σ)) 34 [some (qr 0), some (qi b), some (qi t), some (qi n), none, none] [] σ := by
    intro hz
    refine qV.go 30 [9999] ok_191 ?_
    simp only [qW_nop, qW_iconst, qW_ldc2, qW_lconst, qW_iloadn, qW_iload, qW_aloadn, qW_istore, qW_iinc, qW_iadd, qW_isub, qW_imul, qW_i2l, qW_ifeq, qW_ifne, qW_icge, qW_goto, qW_getf, qW_cs3_0, qW_cv2_0, qW_cv3_1, qW_cv4_0, qW_iret0, Nat.reduceAdd, Nat.reduceMul, Nat.reduceBEq, Nat.reduceEqDiff, Nat.reduceLT, Nat.reduceLeDiff, Nat.zero_le, nI_add, nI_mul, nI_cl, qin_eq, qofI, qlg_0, qlg_s, qls_i0, qls_r0, qls_l0, qls_1, qls_2, qkl_i, qkl_r, qkl_l, qkl_n, qIsI_i, qIsL_l, qIsR_r, qint_i, qil_i, qil_r, qil_l, qf4_0, qf4_1, qf4_2, qf4_3, qf2_0, qf2_1, qcs_n, qcs_i, qcs_r, qcs_l, qst_n, qst_c, qJ_0, qJ_st, qJ_go, qfl_I, qfl_Z, qfl_L, qfl_R, qrI_i, qrL_l, qrV_v, qRcv_0, qRcv_s, eq_self, true_and, and_true, true_or, or_true, false_and, and_false, false_or, or_false, ite_true, if_true, if_false, Bool.true_or, Bool.false_or, Bool.or_false, beq_self_eq_true, Bool.false_eq_true, bX11_clueStatus_0, bX11_clueStatus_34, bX11_clueStatus_36, bX11_clueStatus_49, bX11_clueStatus_66, bX11_clueStatus_69, bX11_clueStatus_132, bX11_clueStatus_134, bX11_clueStatus_140, kX11_clueStatus_0, kX11_clueStatus_34, kX11_clueStatus_36, kX11_clueStatus_49, kX11_clueStatus_66, kX11_clueStatus_69, kX11_clueStatus_132, kX11_clueStatus_134, kX11_clueStatus_140, qK_0, qR_0_0, qK_1, qR_0_1, qK_13, qR_0_2, qK_25, qR_0_3, qK_40, qR_0_4, qK_41, qR_0_5, qK_45, qR_0_6, qK_46, qR_0_7, qK_50, qR_0_8, qK_53, qR_0_9, qK_66, qR_0_10, qK_74, qR_0_11, qK_80, qR_0_12, qK_82, qR_0_14, qK_83, qR_0_15, qK_84]
    unfold zwrong
    rw [if_pos hz]
  refine qV.go 30 [34, 36] ok_191 ?_
  simp only [qW_nop, qW_iconst, qW_ldc2, qW_lconst, qW_iloadn, qW_iload, qW_aloadn, qW_istore, qW_iinc, qW_iadd, qW_isub, qW_imul, qW_i2l, qW_ifeq, qW_ifne, qW_icge, qW_goto, qW_getf, qW_cs3_0, qW_cv2_0, qW_cv3_1, qW_cv4_0, qW_iret0, Nat.reduceAdd, Nat.reduceMul, Nat.reduceBEq, Nat.reduceEqDiff, Nat.reduceLT, Nat.reduceLeDiff, Nat.zero_le, nI_add, nI_mul, nI_cl, qin_eq, qofI, qlg_0, qlg_s, qls_i0, qls_r0, qls_l0, qls_1, qls_2, qkl_i, qkl_r, qkl_l, qkl_n, qIsI_i, qIsL_l, qIsR_r, qint_i, qil_i, qil_r, qil_l, qf4_0, qf4_1, qf4_2, qf4_3, qf2_0, qf2_1, qcs_n, qcs_i, qcs_r, qcs_l, qst_n, qst_c, qJ_0, qJ_st, qJ_go, qfl_I, qfl_Z, qfl_L, qfl_R, qrI_i, qrL_l, qrV_v, qRcv_0, qRcv_s, eq_self, true_and, and_true, true_or, or_true, false_and, and_false, false_or, or_false, ite_true, if_true, if_false, Bool.true_or, Bool.false_or, Bool.or_false, beq_self_eq_true, Bool.false_eq_true, bX11_clueStatus_0, bX11_clueStatus_34, bX11_clueStatus_36, bX11_clueStatus_49, bX11_clueStatus_66, bX11_clueStatus_69, bX11_clueStatus_132, bX11_clueStatus_134, bX11_clueStatus_140, kX11_clueStatus_0, kX11_clueStatus_34, kX11_clueStatus_36, kX11_clueStatus_49, kX11_clueStatus_66, kX11_clueStatus_69, kX11_clueStatus_132, kX11_clueStatus_134, kX11_clueStatus_140, qK_0, qR_0_0, qK_1, qR_0_1, qK_13, qR_0_2, qK_25, qR_0_3, qK_40, qR_0_4, qK_41, qR_0_5, qK_45, qR_0_6, qK_46, qR_0_7, qK_50, qR_0_8, qK_53, qR_0_9, qK_66, qR_0_10, qK_74, qR_0_11, qK_80, qR_0_12, qK_82, qR_0_14, qK_83, qR_0_15, qK_84, qK_1, qR_1_6, qK_2, qR_1_7, qK_3, qR_1_8, qK_4, qR_1_9, qK_5, qR_1_10, qK_6, qR_1_11, qK_7, qR_1_12, qK_8, qR_1_13, qK_9, qR_1_14, qK_10, qR_1_15, qK_11, qR_1_16, qK_12, qK_46, qR_46_0, qK_47, qR_46_1, qK_48, qR_46_2, qK_49]
  refine qBI.fn (x_hasBoy zCb_n hX.1 hw b) (by decide) ?_
  simp (disch := omega) only [nI_leI, nI_ltI, nI_eq, nI_cl, qin_eq, nI_add, nI_mul, qb_z, qb_t, qb_f, nI_ne0', Nat.reduceAdd, Bool.false_eq_true, if_false, if_true, true_and, and_true, Nat.reduceEqDiff, not_true_eq_false, not_false_eq_true, false_implies, true_implies, ite_true, ite_false, Bool.not_eq_false, Bool.not_eq_true]
  refine ⟨fun h1 => no (by rw [h1]; rfl), fun h1 => ?_⟩
  refine qBI.fn (x_known σ t) (by decide) ?_
  simp (disch := omega) only [nI_leI, nI_ltI, nI_eq, nI_cl, qin_eq, nI_add, nI_mul, qb_z, qb_t, qb_f, nI_ne0', Nat.reduceAdd, Bool.false_eq_true, if_false, if_true, true_and, and_true, Nat.reduceEqDiff, not_true_eq_false, not_false_eq_true, false_implies, true_implies, ite_true, ite_false, Bool.not_eq_false, Bool.not_eq_true]
  refine ⟨fun h2 => no (by rw [h2, Bool.and_false]; rfl), fun h2 => ?_⟩
  refine qBI.fn (x_withinI σ n (lo := 0) (hi := 20) (by decide) (by decide)) (by decide) ?_
  simp (disch := omega) only [nI_leI, nI_ltI, nI_eq, nI_cl, qin_eq, nI_add, nI_mul, qb_z, qb_t, qb_f, nI_ne0', Nat.reduceAdd, Bool.false_eq_true, if_false, if_true, true_and, and_true, Nat.reduceEqDiff, not_true_eq_false, not_false_eq_true, false_implies, true_implies, ite_true, ite_false, Bool.not_eq_false, Bool.not_eq_true]
  refine And.symm ⟨fun h3 => no (by rw [h3, Bool.and_false]), fun h3 => ?_⟩
  obtain ⟨b', hb, rfl⟩ := zrg_nI h1
  obtain ⟨t', ht', rfl⟩ := zrg_nI h2
  obtain ⟨n', -, hn, rfl⟩ := zih_nI h3
  have e0 : zwrong (aC A) (aT A) (nI b') (nI t') (nI n') = match (aT A).2.1 t' with | none => 2 | some m => if m < 2 * n' then 3 else if zall (fun k => zrl ((aT A).2.2 t' (2 * k)) (aC A 0 0) && zlh ((aT A).2.2 t' (2 * k + 1)) 0 200) n' then 0 else 5 := by
    unfold zwrong
    rw [h1, h2, h3, nI_tn (by omega), nI_tn (by omega)]
    rfl
  rw [e0]
  clear no e0 h1 h2 h3
  refine qV.go 30 [69] ok_191 ?_
  simp only [qW_nop, qW_iconst, qW_ldc2, qW_lconst, qW_iloadn, qW_iload, qW_aloadn, qW_istore, qW_iinc, qW_iadd, qW_isub, qW_imul, qW_i2l, qW_ifeq, qW_ifne, qW_icge, qW_goto, qW_getf, qW_cs3_0, qW_cv2_0, qW_cv3_1, qW_cv4_0, qW_iret0, Nat.reduceAdd, Nat.reduceMul, Nat.reduceBEq, Nat.reduceEqDiff, Nat.reduceLT, Nat.reduceLeDiff, Nat.zero_le, nI_add, nI_mul, nI_cl, qin_eq, qofI, qlg_0, qlg_s, qls_i0, qls_r0, qls_l0, qls_1, qls_2, qkl_i, qkl_r, qkl_l, qkl_n, qIsI_i, qIsL_l, qIsR_r, qint_i, qil_i, qil_r, qil_l, qf4_0, qf4_1, qf4_2, qf4_3, qf2_0, qf2_1, qcs_n, qcs_i, qcs_r, qcs_l, qst_n, qst_c, qJ_0, qJ_st, qJ_go, qfl_I, qfl_Z, qfl_L, qfl_R, qrI_i, qrL_l, qrV_v, qRcv_0, qRcv_s, eq_self, true_and, and_true, true_or, or_true, false_and, and_false, false_or, or_false, ite_true, if_true, if_false, Bool.true_or, Bool.false_or, Bool.or_false, beq_self_eq_true, Bool.false_eq_true, bX11_clueStatus_0, bX11_clueStatus_34, bX11_clueStatus_36, bX11_clueStatus_49, bX11_clueStatus_66, bX11_clueStatus_69, bX11_clueStatus_132, bX11_clueStatus_134, bX11_clueStatus_140, kX11_clueStatus_0, kX11_clueStatus_34, kX11_clueStatus_36, kX11_clueStatus_49, kX11_clueStatus_66, kX11_clueStatus_69, kX11_clueStatus_132, kX11_clueStatus_134, kX11_clueStatus_140, qK_0, qR_0_0, qK_1, qR_0_1, qK_13, qR_0_2, qK_25, qR_0_3, qK_40, qR_0_4, qK_41, qR_0_5, qK_45, qR_0_6, qK_46, qR_0_7, qK_50, qR_0_8, qK_53, qR_0_9, qK_66, qR_0_10, qK_74, qR_0_11, qK_80, qR_0_12, qK_82, qR_0_14, qK_83, qR_0_15, qK_84, qK_1, qR_1_6, qK_2, qR_1_7, qK_3, qR_1_8, qK_4, qR_1_9, qK_5, qR_1_10, qK_6, qR_1_11, qK_7, qR_1_12, qK_8, qR_1_13, qK_9, qR_1_14, qK_10, qR_1_15, qK_11, qR_1_16, qK_12, qK_46, qR_46_0, qK_47, qR_46_1, qK_48, qR_46_2, qK_49]
  refine qBI.fn (x_laid hT wT (nI t')) (by decide) ?_
  rw [zT_l ht']
  cases hm : (aT A).2.1 t' with
  | none =>
    simp only [Option.isSome]
    simp (disch := omega) only [nI_leI, nI_ltI, nI_eq, nI_cl, qin_eq, nI_add, nI_mul, qb_z, qb_t, qb_f, nI_ne0', Nat.reduceAdd, Bool.false_eq_true, if_false, if_true, true_and, and_true, Nat.reduceEqDiff, not_true_eq_false, not_false_eq_true, false_implies, true_implies, ite_true, ite_false, Bool.not_eq_false, Bool.not_eq_true]
  | some m =>
    have hm60 := (wT t' ht').2 m hm
    simp only [Option.isSome]
    simp (disch := omega) only [nI_leI, nI_ltI, nI_eq, nI_cl, qin_eq, nI_add, nI_mul, qb_z, qb_t, qb_f, nI_ne0', Nat.reduceAdd, Bool.false_eq_true, if_false, if_true, true_and, and_true, Nat.reduceEqDiff, not_true_eq_false, not_false_eq_true, false_implies, true_implies, ite_true, ite_false, Bool.not_eq_false, Bool.not_eq_true]
    refine qBI.fn (x_holds hT wT (nI t') (nI 0) (nI (2 * n'))) (by decide) ?_
    rw [zT_h ht' hn hm]
    simp (disch := omega) only [nI_leI, nI_ltI, nI_eq, nI_cl, qin_eq, nI_add, nI_mul, qb_z, qb_t, qb_f, nI_ne0', Nat.reduceAdd, Bool.false_eq_true, if_false, if_true, true_and, and_true, Nat.reduceEqDiff, not_true_eq_false, not_false_eq_true, false_implies, true_implies, ite_true, ite_false, Bool.not_eq_false, Bool.not_eq_true]
    simp only [decide_eq_true_eq, decide_eq_false_iff_not]
    refine And.symm ⟨fun h4 => ?_, fun h4 => ?_⟩
    · rw [if_pos (by omega)]
    · rw [if_neg (by omega)]
      have e4 : σ.1 1 4 = nI (aC A 0 0) := hX.1.b
      refine qdown (n := n') (P := fun k => ∀ l5 : Option qPV, zall (fun k => zrl ((aT A).2.2 t' (2 * k)) (aC A 0 0) && zlh ((aT A).2.2 t' (2 * k + 1)) 0 200) k = true → qV 191 5 (.inl (fun r σ' => r = nI (if zall (fun k => zrl ((aT A).2.2 t' (2 * k)) (aC A 0 0) && zlh ((aT A).2.2 t' (2 * k + 1)) 0 200) n' = true then 0 else 5) ∧ σ' = σ)) 69 [some (qr 0), some (qi (nI b')), some (qi (nI t')), some (qi (nI n')), some (qi (nI k)), l5] [] σ) (fun k hk ih => ?_) 0 (Nat.zero_le _) none rfl
      intro l5 hp
      have no : k < n' → (zrl ((aT A).2.2 t' (2 * k)) (aC A 0 0) && zlh ((aT A).2.2 t' (2 * k + 1)) 0 200) = false → zall (fun k => zrl ((aT A).2.2 t' (2 * k)) (aC A 0 0) && zlh ((aT A).2.2 t' (2 * k + 1)) 0 200) n' = false := by
        intro hk hh
        cases hz : zall (fun k => zrl ((aT A).2.2 t' (2 * k)) (aC A 0 0) && zlh ((aT A).2.2 t' (2 * k + 1)) 0 200) n' with
        | false => rfl
        | true => rw [(zall_iff _ _).mp hz k hk] at hh; cases hh
      refine qV.go 30 [69, 132] ok_191 ?_
      simp only [qW_nop, qW_iconst, qW_ldc2, qW_lconst, qW_iloadn, qW_iload, qW_aloadn, qW_istore, qW_iinc, qW_iadd, qW_isub, qW_imul, qW_i2l, qW_ifeq, qW_ifne, qW_icge, qW_goto, qW_getf, qW_cs3_0, qW_cv2_0, qW_cv3_1, qW_cv4_0, qW_iret0, Nat.reduceAdd, Nat.reduceMul, Nat.reduceBEq, Nat.reduceEqDiff, Nat.reduceLT, Nat.reduceLeDiff, Nat.zero_le, nI_add, nI_mul, nI_cl, qin_eq, qofI, qlg_0, qlg_s, qls_i0, qls_r0, qls_l0, qls_1, qls_2, qkl_i, qkl_r, qkl_l, qkl_n, qIsI_i, qIsL_l, qIsR_r, qint_i, qil_i, qil_r, qil_l, qf4_0, qf4_1, qf4_2, qf4_3, qf2_0, qf2_1, qcs_n, qcs_i, qcs_r, qcs_l, qst_n, qst_c, qJ_0, qJ_st, qJ_go, qfl_I, qfl_Z, qfl_L, qfl_R, qrI_i, qrL_l, qrV_v, qRcv_0, qRcv_s, eq_self, true_and, and_true, true_or, or_true, false_and, and_false, false_or, or_false, ite_true, if_true, if_false, Bool.true_or, Bool.false_or, Bool.or_false, beq_self_eq_true, Bool.false_eq_true, bX11_clueStatus_0, bX11_clueStatus_34, bX11_clueStatus_36, bX11_clueStatus_49, bX11_clueStatus_66, bX11_clueStatus_69, bX11_clueStatus_132, bX11_clueStatus_134, bX11_clueStatus_140, kX11_clueStatus_0, kX11_clueStatus_34, kX11_clueStatus_36, kX11_clueStatus_49, kX11_clueStatus_66, kX11_clueStatus_69, kX11_clueStatus_132, kX11_clueStatus_134, kX11_clueStatus_140, qK_0, qR_0_0, qK_1, qR_0_1, qK_13, qR_0_2, qK_25, qR_0_3, qK_40, qR_0_4, qK_41, qR_0_5, qK_45, qR_0_6, qK_46, qR_0_7, qK_50, qR_0_8, qK_53, qR_0_9, qK_66, qR_0_10, qK_74, qR_0_11, qK_80, qR_0_12, qK_82, qR_0_14, qK_83, qR_0_15, qK_84, qK_1, qR_1_6, qK_2, qR_1_7, qK_3, qR_1_8, qK_4, qR_1_9, qK_5, qR_1_10, qK_6, qR_1_11, qK_7, qR_1_12, qK_8, qR_1_13, qK_9, qR_1_14, qK_10, qR_1_15, qK_11, qR_1_16, qK_12, qK_46, qR_46_0, qK_47, qR_46_1, qK_48, qR_46_2, qK_49]
      simp (disch := omega) only [nI_leI, nI_ltI, nI_eq, nI_cl, qin_eq, nI_add, nI_mul, qb_z, qb_t, qb_f, nI_ne0', Nat.reduceAdd, Bool.false_eq_true, if_false, if_true, true_and, and_true, Nat.reduceEqDiff, not_true_eq_false, not_false_eq_true, false_implies, true_implies, ite_true, ite_false]
      refine And.symm ⟨fun h5 => ?_, fun h5 => ?_⟩
      · have hk1 : k < n' := by omega
        have bad : ∀ l5, (zrl ((aT A).2.2 t' (2 * k)) (aC A 0 0) && zlh ((aT A).2.2 t' (2 * k + 1)) 0 200) = false → qV 191 5 (.inl (fun r σ' => r = nI (if zall (fun k => zrl ((aT A).2.2 t' (2 * k)) (aC A 0 0) && zlh ((aT A).2.2 t' (2 * k + 1)) 0 200) n' = true then 0 else 5) ∧ σ' = σ)) 132 [some (qr 0), some (qi (nI b')), some (qi (nI t')), some (qi (nI n')), some (qi (nI k)), l5] [] σ := by
          intro l5 hz
          refine qV.go 30 [9999] ok_191 ?_
          simp only [qW_nop, qW_iconst, qW_ldc2, qW_lconst, qW_iloadn, qW_iload, qW_aloadn, qW_istore, qW_iinc, qW_iadd, qW_isub, qW_imul, qW_i2l, qW_ifeq, qW_ifne, qW_icge, qW_goto, qW_getf, qW_cs3_0, qW_cv2_0, qW_cv3_1, qW_cv4_0, qW_iret0, Nat.reduceAdd, Nat.reduceMul, Nat.reduceBEq, Nat.reduceEqDiff, Nat.reduceLT, Nat.reduceLeDiff, Nat.zero_le, nI_add, nI_mul, nI_cl, qin_eq, qofI, qlg_0, qlg_s, qls_i0, qls_r0, qls_l0, qls_1, qls_2, qkl_i, qkl_r, qkl_l, qkl_n, qIsI_i, qIsL_l, qIsR_r, qint_i, qil_i, qil_r, qil_l, qf4_0, qf4_1, qf4_2, qf4_3, qf2_0, qf2_1, qcs_n, qcs_i, qcs_r, qcs_l, qst_n, qst_c, qJ_0, qJ_st, qJ_go, qfl_I, qfl_Z, qfl_L, qfl_R, qrI_i, qrL_l, qrV_v, qRcv_0, qRcv_s, eq_self, true_and, and_true, true_or, or_true, false_and, and_false, false_or, or_false, ite_true, if_true, if_false, Bool.true_or, Bool.false_or, Bool.or_false, beq_self_eq_true, Bool.false_eq_true, bX11_clueStatus_0, bX11_clueStatus_34, bX11_clueStatus_36, bX11_clueStatus_49, bX11_clueStatus_66, bX11_clueStatus_69, bX11_clueStatus_132, bX11_clueStatus_134, bX11_clueStatus_140, kX11_clueStatus_0, kX11_clueStatus_34, kX11_clueStatus_36, kX11_clueStatus_49, kX11_clueStatus_66, kX11_clueStatus_69, kX11_clueStatus_132, kX11_clueStatus_134, kX11_clueStatus_140, qK_0, qR_0_0, qK_1, qR_0_1, qK_13, qR_0_2, qK_25, qR_0_3, qK_40, qR_0_4, qK_41, qR_0_5, qK_45, qR_0_6, qK_46, qR_0_7, qK_50, qR_0_8, qK_53, qR_0_9, qK_66, qR_0_10, qK_74, qR_0_11, qK_80, qR_0_12, qK_82, qR_0_14, qK_83, qR_0_15, qK_84]
          rw [if_neg (by rw [no hk1 hz]; decide)]
        refine qBL.fn (x_get hT wT ht' hm (by omega)) (by decide) ?_
        rw [e4, nI_sub (by omega)]
        refine qBI.fn (x_within8 σ _ (by omega) (by omega)) (by decide) ?_
        simp (disch := omega) only [nI_leI, nI_ltI, nI_eq, nI_cl, qin_eq, nI_add, nI_mul, qb_z, qb_t, qb_f, nI_ne0', Nat.reduceAdd, Bool.false_eq_true, if_false, if_true, true_and, and_true, Nat.reduceEqDiff, not_true_eq_false, not_false_eq_true, false_implies, true_implies, ite_true, ite_false, Bool.not_eq_false, Bool.not_eq_true]
        refine ⟨fun h6 => bad _ (by rw [h6]; rfl), fun h6 => ?_⟩
        refine qBL.fn (x_get hT wT ht' hm (by omega)) (by decide) ?_
        refine qBI.fn (x_withinL σ _ (lo := 0) (hi := 200) (by decide) (by decide)) (by decide) ?_
        simp (disch := omega) only [nI_leI, nI_ltI, nI_eq, nI_cl, qin_eq, nI_add, nI_mul, qb_z, qb_t, qb_f, nI_ne0', Nat.reduceAdd, Bool.false_eq_true, if_false, if_true, true_and, and_true, Nat.reduceEqDiff, not_true_eq_false, not_false_eq_true, false_implies, true_implies, ite_true, ite_false, Bool.not_eq_false, Bool.not_eq_true]
        refine And.symm ⟨fun h7 => bad _ (by rw [h7, Bool.and_false]), fun h7 => ?_⟩
        exact ih hk1 _ (by simp only [zall, hp, h6, h7]; rfl)
      · rw [show k = n' by omega] at hp
        rw [if_pos hp]
def zclS (T : zT) (t i : Nat) : Nat := (T.2.2 t (2 * i)).toInt.toNat
def zclA (T : zT) (t i : Nat) : Nat := (T.2.2 t (2 * i + 1)).toInt.toNat
theorem zfit_cl (C : zC) (T : zT) {b t n : Nat} (hv : ∀ k, k < n → zrl (T.2.2 t (2 * k)) (C 0 0) = true ∧ zlh (T.2.2 t (2 * k + 1)) 0 200 = true) (p : Nat) : zall (fun i => decide (zupb (zu C 2 b p) (zclS T t i) = zclA T t i)) n = zfit C T b t n p := by
  unfold zfit
  apply Bool.eq_iff_iff.mpr
  rw [zall_iff, zall_iff]
  refine forall_congr' fun i => imp_congr_right fun hi => ?_
  have h2 := (hv i hi).2
  unfold zlh at h2
  have h3 : 0 ≤ (T.2.2 t (2 * i + 1)).toInt := by
    have := of_decide_eq_true (Bool.and_eq_true_iff.mp h2).1
    omega
  simp only [decide_eq_true_eq]
  unfold zclS zclA
  omega
def zPfp (a : Nat) (j : Nat) : Prop := zPcl a j ∨ (a = 41 ∧ j = 4) ∨ a = 42 ∨ a = 43
theorem zPfp_s (a j : Nat) (h : zPfp a j) : a < 139 ∧ ¬ zXp1 a j := by unfold zPfp zPcl at h; unfold zXp1; omega
set_option maxRecDepth 20000 in
theorem X_fittingPrides {σ : qSg} {A : zA} (hA : zXA σ A) (hW : zAW A) {b t n m : Nat} (hb : b < aC A 0 0) (ht : t < 4) (hn : n ≤ 20) (hm : (aT A).2.1 t = some m) (hm2 : 2 * n ≤ m) (hv : ∀ k, k < n → zrl ((aT A).2.2 t (2 * k)) (aC A 0 0) = true ∧ zlh ((aT A).2.2 t (2 * k + 1)) 0 200 = true) : qCI 6 192 [qr 0, qi (nI b), qi (nI t), qi (nI n)] σ (fun r σ' => r = nI (bm 31 (zps (zfit (aC A) (aT A) b t n))) ∧ zUb σ' (aC A 0 0) (fun p => zupb (zu (aC A) 2 b p)) ∧ zXA σ' A ∧ zCls σ σ') := by
  have hX := hA.x
  have hw := hW.w
  have wb := hw.1
  have hT := hA.2.2.1
  have wT := hW.2.2.2.1
  have h5 : aC A 0 5 ≤ 9999 := hW.1.2.1
  have hm60 := (wT t ht).2 m hm
  refine qCI.of [some (qr 0), some (qi (nI b)), some (qi (nI t)), some (qi (nI n)), none] ok_192 (Nat.le_of_ble_eq_true rfl) rfl ?_
  refine qV.go 30 [10] ok_192 ?_
  simp only [qW_nop, qW_iconst, qW_iloadn, qW_iload, qW_aloadn, qW_istore, qW_iinc, qW_iadd, qW_imul, qW_l2i, qW_icge, qW_goto, qW_getf, qW_cv1_2, qW_cv3_0, qW_cv3_1, qW_cv3_2, qW_iret0, Nat.reduceAdd, Nat.reduceMul, Nat.reduceBEq, Nat.reduceEqDiff, Nat.reduceLT, Nat.reduceLeDiff, Nat.zero_le, nI_add, nI_mul, nI_cl, qin_eq, qofI, qlg_0, qlg_s, qls_i0, qls_r0, qls_l0, qls_1, qls_2, qkl_i, qkl_r, qkl_l, qkl_n, qIsI_i, qIsL_l, qIsR_r, qint_i, qil_i, qil_r, qil_l, qf4_0, qf4_1, qf4_2, qf4_3, qf2_0, qf2_1, qcs_n, qcs_i, qcs_r, qcs_l, qst_n, qst_c, qJ_0, qJ_st, qJ_go, qfl_I, qfl_Z, qfl_L, qfl_R, qrI_i, qrL_l, qrV_v, qRcv_0, qRcv_s, eq_self, true_and, and_true, true_or, or_true, false_and, and_false, false_or, or_false, ite_true, if_true, if_false, Bool.true_or, Bool.false_or, Bool.or_false, beq_self_eq_true, Bool.false_eq_true, bX11_fittingPrides_0, bX11_fittingPrides_10, bX11_fittingPrides_57, kX11_fittingPrides_0, kX11_fittingPrides_10, kX11_fittingPrides_57, qK_0, qR_0_0, qK_1, qR_0_1, qK_13, qR_0_2, qK_25, qR_0_3, qK_40, qR_0_4, qK_41, qR_0_5, qK_45, qR_0_6, qK_46, qR_0_7, qK_50, qR_0_8, qK_53, qR_0_9, qK_66, qR_0_10, qK_74, qR_0_11, qK_80, qR_0_12, qK_82, qR_0_14, qK_83, qR_0_15, qK_84, qK_41, qR_41_0, qK_13, qR_41_1, qK_25, qR_41_2, qK_42, qR_41_3, qK_43, qR_41_5, qK_44]
  refine qBV.of (x_forget σ) (by decide) (fun σ0 g0 => ?_)
  subst g0
  refine qdown (n := n) (P := fun k => ∀ σ1, zF (fun a j => (a = 41 ∧ j = 4) ∨ a = 42 ∨ a = 43) σ σ1 → zCl σ1 k (zclS (aT A) t) (zclA (aT A) t) → qV 192 6 (.inl (fun r σ' => r = nI (bm 31 (zps (zfit (aC A) (aT A) b t n))) ∧ zUb σ' (aC A 0 0) (fun p => zupb (zu (aC A) 2 b p)) ∧ zXA σ' A ∧ zCls σ σ')) 10 [some (qr 0), some (qi (nI b)), some (qi (nI t)), some (qi (nI n)), some (qi (nI k))] [] σ1) (fun k hk ih => ?_) 0 (Nat.zero_le _) _ (zF.wi (Or.inl ⟨rfl, rfl⟩)) ⟨by rw [qwi_1, if_pos ⟨rfl, rfl⟩], fun i hi => absurd hi (Nat.not_lt_zero _)⟩
  intro σ1 f1 c1
  have K1 := hA.pf hW f1 (fun a j h => by unfold zXp1; omega)
  have hT1 := K1.1.2.2.1
  refine qV.go 30 [10] ok_192 ?_
  simp only [qW_nop, qW_iconst, qW_iloadn, qW_iload, qW_aloadn, qW_istore, qW_iinc, qW_iadd, qW_imul, qW_l2i, qW_icge, qW_goto, qW_getf, qW_cv1_2, qW_cv3_0, qW_cv3_1, qW_cv3_2, qW_iret0, Nat.reduceAdd, Nat.reduceMul, Nat.reduceBEq, Nat.reduceEqDiff, Nat.reduceLT, Nat.reduceLeDiff, Nat.zero_le, nI_add, nI_mul, nI_cl, qin_eq, qofI, qlg_0, qlg_s, qls_i0, qls_r0, qls_l0, qls_1, qls_2, qkl_i, qkl_r, qkl_l, qkl_n, qIsI_i, qIsL_l, qIsR_r, qint_i, qil_i, qil_r, qil_l, qf4_0, qf4_1, qf4_2, qf4_3, qf2_0, qf2_1, qcs_n, qcs_i, qcs_r, qcs_l, qst_n, qst_c, qJ_0, qJ_st, qJ_go, qfl_I, qfl_Z, qfl_L, qfl_R, qrI_i, qrL_l, qrV_v, qRcv_0, qRcv_s, eq_self, true_and, and_true, true_or, or_true, false_and, and_false, false_or, or_false, ite_true, if_true, if_false, Bool.true_or, Bool.false_or, Bool.or_false, beq_self_eq_true, Bool.false_eq_true, bX11_fittingPrides_0, bX11_fittingPrides_10, bX11_fittingPrides_57, kX11_fittingPrides_0, kX11_fittingPrides_10, kX11_fittingPrides_57, qK_0, qR_0_0, qK_1, qR_0_1, qK_13, qR_0_2, qK_25, qR_0_3, qK_40, qR_0_4, qK_41, qR_0_5, qK_45, qR_0_6, qK_46, qR_0_7, qK_50, qR_0_8, qK_53, qR_0_9, qK_66, qR_0_10, qK_74, qR_0_11, qK_80, qR_0_12, qK_82, qR_0_14, qK_83, qR_0_15, qK_84, qK_41, qR_41_0, qK_13, qR_41_1, qK_25, qR_41_2, qK_42, qR_41_3, qK_43, qR_41_5, qK_44, qK_1, qR_1_6, qK_2, qR_1_7, qK_3, qR_1_8, qK_4, qR_1_9, qK_5, qR_1_10, qK_6, qR_1_11, qK_7, qR_1_12, qK_8, qR_1_13, qK_9, qR_1_14, qK_10, qR_1_15, qK_11, qR_1_16, qK_12, qK_46, qR_46_0, qK_47, qR_46_1, qK_48, qR_46_2, qK_49]
  simp (disch := omega) only [nI_leI, nI_ltI, nI_eq, nI_cl, qin_eq, nI_add, nI_mul, qb_z, qb_t, qb_f, nI_ne0', Nat.reduceAdd, Bool.false_eq_true, if_false, if_true, true_and, and_true, Nat.reduceEqDiff, not_true_eq_false, not_false_eq_true, false_implies, true_implies, ite_true, ite_false]
  refine And.symm ⟨fun h6 => ?_, fun h6 => ?_⟩
  · have hk1 : k < n := by omega
    refine qBL.fn (x_get hT1 wT ht hm (by omega)) (by decide) ?_
    refine qBL.fn (x_get hT1 wT ht hm (by omega)) (by decide) ?_
    have hv1 := zrl_nat (hv k hk1).1
    have hv2 := (hv k hk1).2
    unfold zlh at hv2
    have hv3 := of_decide_eq_true (Bool.and_eq_true_iff.mp hv2).1
    have hv4 := of_decide_eq_true (Bool.and_eq_true_iff.mp hv2).2
    have e1 : ((aT A).2.2 t (2 * k)).toInt32 = nI (zclS (aT A) t k) := by
      unfold zclS
      apply Int32.toInt_inj.mp
      rw [nI_t (by omega), Int64.toInt_toInt32, ← hv1.1]
      rw [Int.bmod_eq_of_le (by omega) (by omega)]
    have e2 : ((aT A).2.2 t (2 * k + 1)).toInt32 = nI (zclA (aT A) t k) := by
      unfold zclA
      apply Int32.toInt_inj.mp
      rw [nI_t (by omega), Int64.toInt_toInt32, Int.bmod_eq_of_le (by omega) (by omega)]
      omega
    rw [e1, e2]
    refine qBV.of (x_addClue c1.1 (by omega) _ _) (by decide) (fun σ2 g2 => ?_)
    subst g2
    refine ih hk1 _ (f1.tr (((zF.wi (Or.inr (Or.inl rfl))).tr (zF.wi (Or.inr (Or.inr rfl)))).tr (zF.wi (Or.inl ⟨rfl, rfl⟩)))) ⟨by rw [qwi_1, if_pos ⟨rfl, rfl⟩], fun i hi => ⟨?_, ?_⟩⟩
    · rw [qwi_1, if_neg (by omega), qwi_1, if_neg (by omega), qwi_1]
      by_cases ei : i = k
      · rw [if_pos ⟨rfl, ei⟩, ei]
      · rw [if_neg (by omega)]; exact (c1.2 i (by omega)).1
    · rw [qwi_1, if_neg (by omega), qwi_1]
      by_cases ei : i = k
      · rw [if_pos ⟨rfl, ei⟩, ei]
      · rw [if_neg (by omega), qwi_1, if_neg (by omega)]; exact (c1.2 i (by omega)).2
  · have hk1 : k = n := by omega
    subst hk1
    refine qBI.of (x_fitting K1.1.x hw (by omega) hb hn c1 (fun i hi => (zrl_nat (hv i hi).1).2) (fun i hi => ?_)) (by decide) (fun r σ2 g2 => ?_)
    · have hv2 := (hv i hi).2
      unfold zlh at hv2
      have hv3 := of_decide_eq_true (Bool.and_eq_true_iff.mp hv2).1
      have hv4 := of_decide_eq_true (Bool.and_eq_true_iff.mp hv2).2
      unfold zclA
      omega
    · obtain ⟨rfl, u2, f2⟩ := g2
      have K2 := K1.1.pl hW f2 (fun a j h => by unfold zPcl at h; unfold zXp1; omega) zRpl_s
      refine ⟨?_, u2, K2.1, K1.2.tr K2.2⟩
      rw [show (fun p => zall (fun i => decide (zupb (zu (aC A) 2 b p) (zclS (aT A) t i) = zclA (aT A) t i)) k) = zfit (aC A) (aT A) b t k from funext fun p => zfit_cl _ _ hv p]
