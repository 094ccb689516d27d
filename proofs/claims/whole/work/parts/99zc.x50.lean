/-! the class's calls: weeks are read -/
def zPwa (a j : Nat) : Prop := zPwq a j ∨ (a = 50 ∧ j = 1)
set_option maxRecDepth 20000 in
theorem X_weeks {σ : qSg} {A : zA} (hA : zXA σ A) (hW : zAW A) (x : Int32) : qCI 8 154 [qr 0, qi x] σ (zXCall σ (yWeeks A x)) := by
  obtain ⟨w1, w2, w3, w4, w5, w6⟩ := id hW
  obtain ⟨k1, k2, k3, k4, k5, k6, k7, k8, k9, k10⟩ := id hA
  have h900 := w5.1
  refine qCI.of [some (qr 0), some (qi x), none] ok_154 (Nat.le_of_ble_eq_true rfl) rfl ?_
  have no : zbeg (aP A) x 300 = false → qV 154 8 (.inl (zXCall σ (yWeeks A x))) 24 [some (qr 0), some (qi x), none] [] σ := by
    intro hz
    refine qV.go 30 [9999] ok_154 ?_
    simp only [qW_nop, qW_iconst, qW_bipush, qW_sipush, qW_lconst, qW_iloadn, qW_aloadn, qW_istoren, qW_i2l, qW_ifeq, qW_ifne, qW_icle, qW_getf, qW_cs3_0, qW_cv2_0, qW_cv2_2, qW_cv3_0, qW_iret0, qW_putf0, Nat.reduceAdd, Nat.reduceMul, Nat.reduceBEq, Nat.reduceEqDiff, Nat.reduceLT, Nat.reduceLeDiff, Nat.zero_le, nI_add, nI_mul, nI_cl, qin_eq, qofI, qlg_0, qlg_s, qls_i0, qls_r0, qls_l0, qls_1, qls_2, qkl_i, qkl_r, qkl_l, qkl_n, qIsI_i, qIsL_l, qIsR_r, qint_i, qil_i, qil_r, qil_l, qf4_0, qf4_1, qf4_2, qf4_3, qf2_0, qf2_1, qcs_n, qcs_i, qcs_r, qcs_l, qst_n, qst_c, qJ_0, qJ_st, qJ_go, qfl_I, qfl_Z, qfl_L, qfl_R, qrI_i, qrL_l, qrV_v, qRcv_0, qRcv_s, eq_self, true_and, and_true, true_or, or_true, false_and, and_false, false_or, or_false, ite_true, if_true, if_false, Bool.true_or, Bool.false_or, Bool.or_false, beq_self_eq_true, Bool.false_eq_true, bX11_weeks_0, bX11_weeks_24, bX11_weeks_30, bX11_weeks_62, kX11_weeks_0, kX11_weeks_24, kX11_weeks_30, kX11_weeks_62, qK_0, qR_0_0, qK_1, qR_0_1, qK_13, qR_0_2, qK_25, qR_0_3, qK_40, qR_0_4, qK_41, qR_0_5, qK_45, qR_0_6, qK_46, qR_0_7, qK_50, qR_0_8, qK_53, qR_0_9, qK_66, qR_0_10, qK_74, qR_0_11, qK_80, qR_0_12, qK_82, qR_0_14, qK_83, qR_0_15, qK_84]
    exact g_no hA hW zCls.rf (by decide) (by unfold yWeeks; rw [if_pos hz]; rfl)
  refine qV.go 30 [24] ok_154 ?_
  simp only [qW_nop, qW_iconst, qW_bipush, qW_sipush, qW_lconst, qW_iloadn, qW_aloadn, qW_istoren, qW_i2l, qW_ifeq, qW_ifne, qW_icle, qW_getf, qW_cs3_0, qW_cv2_0, qW_cv2_2, qW_cv3_0, qW_iret0, qW_putf0, Nat.reduceAdd, Nat.reduceMul, Nat.reduceBEq, Nat.reduceEqDiff, Nat.reduceLT, Nat.reduceLeDiff, Nat.zero_le, nI_add, nI_mul, nI_cl, qin_eq, qofI, qlg_0, qlg_s, qls_i0, qls_r0, qls_l0, qls_1, qls_2, qkl_i, qkl_r, qkl_l, qkl_n, qIsI_i, qIsL_l, qIsR_r, qint_i, qil_i, qil_r, qil_l, qf4_0, qf4_1, qf4_2, qf4_3, qf2_0, qf2_1, qcs_n, qcs_i, qcs_r, qcs_l, qst_n, qst_c, qJ_0, qJ_st, qJ_go, qfl_I, qfl_Z, qfl_L, qfl_R, qrI_i, qrL_l, qrV_v, qRcv_0, qRcv_s, eq_self, true_and, and_true, true_or, or_true, false_and, and_false, false_or, or_false, ite_true, if_true, if_false, Bool.true_or, Bool.false_or, Bool.or_false, beq_self_eq_true, Bool.false_eq_true, bX11_weeks_0, bX11_weeks_24, bX11_weeks_30, bX11_weeks_62, kX11_weeks_0, kX11_weeks_24, kX11_weeks_30, kX11_weeks_62, qK_0, qR_0_0, qK_1, qR_0_1, qK_13, qR_0_2, qK_25, qR_0_3, qK_40, qR_0_4, qK_41, qR_0_5, qK_45, qR_0_6, qK_46, qR_0_7, qK_50, qR_0_8, qK_53, qR_0_9, qK_66, qR_0_10, qK_74, qR_0_11, qK_80, qR_0_12, qK_82, qR_0_14, qK_83, qR_0_15, qK_84, qK_50, qR_50_0, qK_51, qR_50_13, qK_52, qK_66, qR_66_0, qK_50, qR_66_1, qK_67, qR_66_2, qK_73, qK_67, qR_67_3, qK_68, qR_67_4, qK_69, qR_67_5, qK_70, qR_67_6, qK_71, qR_67_7, qK_72, qK_1, qR_1_6, qK_2, qR_1_7, qK_3, qR_1_8, qK_4, qR_1_9, qK_5, qR_1_10, qK_6, qR_1_11, qK_7, qR_1_12, qK_8, qR_1_13, qK_9, qR_1_14, qK_10, qR_1_15, qK_11, qR_1_16, qK_12, qK_74, qR_74_3, qK_75, qR_74_4, qK_76, qR_74_5, qK_77, qR_74_6, qK_78, qR_74_7, qK_79]
  rw [k4.1, nI_l' (by omega)]
  refine qBI.fn (x_withinI σ x (lo := 0) (hi := (aP A).1) (by decide) (by omega)) (by decide) ?_
  simp (disch := omega) only [nI_leI, nI_ltI, nI_eq, nI_cl, qin_eq, nI_add, nI_mul, qb_z, qb_t, qb_f, nI_ne0', Nat.reduceAdd, Bool.false_eq_true, if_false, if_true, true_and, and_true, Nat.reduceEqDiff, not_true_eq_false, not_false_eq_true, false_implies, true_implies, ite_true, ite_false, Bool.not_eq_false, Bool.not_eq_true]
  refine ⟨fun g => no (by unfold zbeg; rw [g]; rfl), fun hz => ?_⟩
  obtain ⟨n, -, hn, rfl⟩ := zih_nI hz
  simp (disch := omega) only [nI_leI, nI_ltI, nI_eq, nI_cl, qin_eq, nI_add, nI_mul, qb_z, qb_t, qb_f, nI_ne0', Nat.reduceAdd, Bool.false_eq_true, if_false, if_true, true_and, and_true, Nat.reduceEqDiff, not_true_eq_false, not_false_eq_true, false_implies, true_implies, ite_true, ite_false]
  refine And.symm ⟨fun g => no ?_, fun g3 => ?_⟩
  · unfold zbeg
    have : zih (nI n) 0 300 = false := by
      unfold zih
      rw [nI_t (by omega), decide_eq_false (p := ((n : Nat) : Int) ≤ ((300 : Nat) : Int)) (by omega), Bool.and_false]
    rw [this, Bool.and_false]
  clear no
  have ez : zbeg (aP A) (nI n) 300 = true := by
    unfold zbeg
    rw [hz, Bool.true_and]
    exact zih_k (by omega) (by omega) (by omega)
  have eY : yWeeks A (nI n) = match zrdW (ztx (aP A).2 n) A.1.2.1 (aC A 0 0) (aC A 0 2 * aC A 0 3) with
    | .inl e => (iI (-1), sS (sE (sP (sK A A.1) (0, (aP A).2)) (nI e.1, nI e.2)) 9)
    | .inr s => (nI s.2.2.1, sS (sE (sP (sK A (A.1.1, A.1.2.1, some (s.1, s.2.1))) (0, (aP A).2)) (nI 0, iI (-1))) 0) := by
    unfold yWeeks
    rw [if_neg (by rw [ez]; decide), nI_tn (by omega)]
    cases zrdW (ztx (aP A).2 n) A.1.2.1 (aC A 0 0) (aC A 0 2 * aC A 0 3) <;> rfl
  rw [eY]
  have hB := ztx_W w5 hn
  have ht : ∀ k, k < n → σ.1 51 k = zby (ztx (aP A).2 n k) := fun k hk => by
    unfold ztx
    rw [if_pos hk]
    exact k4.2 k (by omega)
  refine qBI.of (x_takeInW hB g3 ht k5 k1.1 w1.1 k1.2.1 w1.2.2.1) (by decide) (fun r σ1 g1 => ?_)
  obtain ⟨g1, f1⟩ := g1
  have c1 : zG zPwa zRxt σ (qwi σ1 50 1 (nI 0)) := (f1.wk (fun a j h => Or.inl h) (fun a j h => h)).tr (zG.wi (Or.inr ⟨rfl, rfl⟩))
  have b1 : (qwi σ1 50 1 (nI 0)).1 50 1 = nI 0 := by rw [qwi_1, if_pos ⟨rfl, rfl⟩]
  have o1 : ∀ a j, ¬ (a = 50 ∧ j = 1) → (qwi σ1 50 1 (nI 0)).1 a j = σ1.1 a j := fun a j h => by rw [qwi_1, if_neg h]
  generalize qwi σ1 50 1 (nI 0) = σ2 at c1 b1 o1 ⊢
  have eC : aC A 0 0 = A.1.1 0 0 := rfl
  have eC2 : aC A 0 2 = A.1.1 0 2 := rfl
  have eC3 : aC A 0 3 = A.1.1 0 3 := rfl
  cases er : zrdW (ztx (aP A).2 n) A.1.2.1 (A.1.1 0 0) (A.1.1 0 2 * A.1.1 0 3) with
  | inl e =>
    rw [er] at g1
    obtain ⟨rfl, he⟩ := g1
    simp (disch := omega) only [nI_leI, nI_ltI, nI_eq, nI_cl, qin_eq, nI_add, nI_mul, qb_z, qb_t, qb_f, nI_ne0', Nat.reduceAdd, Bool.false_eq_true, if_false, if_true, true_and, and_true, Nat.reduceEqDiff, not_true_eq_false, not_false_eq_true, false_implies, true_implies, ite_true, ite_false, Bool.not_eq_false, Bool.not_eq_true]
    refine g_no (A1 := sE (sP (sK A A.1) (0, (aP A).2)) (nI e.1, nI e.2)) (hA.rd hW c1 (fun a j h => ?_) (fun a j h => ?_) (k1.fr (fun a j h => ?_) (fun j => ?_)) b1 ?_ ?_) (hW.rd w1 _) (zCls.g c1 (fun a j h => ?_) (fun a j h => ?_)) (by decide) rfl
    · unfold zPwa zPwq at h; unfold zXp4 zXp1; omega
    · unfold zRxt at h; unfold zXp2; omega
    · exact c1.1 a j (by unfold zPwa zPwq; omega)
    · exact c1.2 _ j (by unfold zRxt; omega)
    · rw [o1 _ _ (by omega)]; exact he.1
    · rw [o1 _ _ (by omega)]; exact he.2
    · unfold zPwa zPwq at h; omega
    · unfold zRxt at h; omega
  | inr s =>
    rw [er] at g1
    obtain ⟨rfl, xv, sw, sd, t1, t2⟩ := g1
    simp (disch := omega) only [nI_leI, nI_ltI, nI_eq, nI_cl, qin_eq, nI_add, nI_mul, qb_z, qb_t, qb_f, nI_ne0', Nat.reduceAdd, Bool.false_eq_true, if_false, if_true, true_and, and_true, Nat.reduceEqDiff, not_true_eq_false, not_false_eq_true, false_implies, true_implies, ite_true, ite_false, Bool.not_eq_false, Bool.not_eq_true]
    have hWW := zQW_W sw sd
    have n60 := hWW.1
    have V2 : zXW σ2 67 s.1 s.2.1 s.2.2.1 := xv.1.fr fun a j h1 h2 => o1 a j (by omega)
    have V0 : σ2.1 67 0 = qb true := by rw [o1 _ _ (by omega)]; exact xv.2.1
    refine qBV.of (x_copyW (Or.inr (Or.inl rfl)) (Or.inl rfl) (by decide) V2 n60 V0) (by decide) (fun σ3 g3 => ?_)
    obtain ⟨V3, V30, f3⟩ := g3
    have fz : zG (fun a j => zPwa a j ∨ (74 ≤ a ∧ a ≤ 79)) zRxt σ σ3 := ⟨fun a j h => by rw [f3.1 a j (by unfold zWf; omega), c1.1 a j (fun hp => h (Or.inl hp))], fun a j h => by rw [f3.2, c1.2 a j h]⟩
    have e4 : σ3.1 74 2 = nI s.2.2.1 := V3.2.1
    rw [e4]
    have wk : zKW (A.1.1, A.1.2.1, some (s.1, s.2.1)) := ⟨w1.1, w1.2.1, w1.2.2.1, fun w hw => by cases hw; exact hWW⟩
    refine g_ok (A1 := sE (sP (sK A (A.1.1, A.1.2.1, some (s.1, s.2.1))) (0, (aP A).2)) (nI 0, iI (-1))) (hA.rd hW fz (fun a j h => ?_) (fun a j h => ?_) ⟨k1.1.fr (fun a j h1 h2 => fz.1 a j (by unfold zPwa zPwq; omega)), k1.2.1.fr (fun j => fz.2 _ _ (by unfold zRxt; omega)), ⟨V30, _, V3⟩⟩ ?_ ?_ ?_) (hW.rd wk _) (zCls.g fz (fun a j h => ?_) (fun a j h => ?_)) (by decide) rfl
    · unfold zPwa zPwq at h; unfold zXp4 zXp1; omega
    · unfold zRxt at h; unfold zXp2; omega
    · rw [f3.1 _ _ (by unfold zWf; omega)]; exact b1
    · rw [f3.1 _ _ (by unfold zWf; omega), o1 _ _ (by omega)]; exact t1
    · rw [f3.1 _ _ (by unfold zWf; omega), o1 _ _ (by omega)]; exact t2
    · unfold zPwa zPwq at h; omega
    · unfold zRxt at h; omega
