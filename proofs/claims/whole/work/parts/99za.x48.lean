/-! the class's calls: lives told -/
theorem zXwk.c {σ : qSg} {w : Nat} {o : Option ((Nat → Nat → Nat) × Nat)} (h : zXwk σ w o) : σ.1 w 0 = qb o.isSome := by
  cases o with
  | none => exact h.1
  | some x => exact h.1
theorem zAW.lf {A : zA} (h : zAW A) {w : (Nat → Nat → Nat) × Nat} (ew : A.1.2.2 = some w) {s : zL} (hs : zLW w.1 w.2 s) (e : ∀ i, i ≠ 1 → i ≠ 5 → s.1 0 i = aC A 0 i) (D : Bool × (Nat → Nat)) : zAW (sL (sD (sC A s.1) D) s.2.1) := by
  obtain ⟨⟨w1, w2, w3, w4⟩, w5, w6, w7, w8, w9⟩ := h
  have e0 : s.1 0 0 = A.1.1 0 0 := e 0 (by decide) (by decide)
  have e2 : s.1 0 2 = A.1.1 0 2 := e 2 (by decide) (by decide)
  have e3 : s.1 0 3 = A.1.1 0 3 := e 3 (by decide) (by decide)
  refine ⟨⟨hs.1, hs.2.2.1, ?_, ?_⟩, w5, w6, w7, w8, hs.2.2.2.2.2.2.2.2.2.2.1⟩
  · show zNW (s.1 0 0) A.1.2.1
    rw [e0]; exact w3
  · intro x hx
    show zWW x.1 x.2 (s.1 0 0) (s.1 0 2 * s.1 0 3)
    rw [e0, e2, e3]
    exact w4 x hx
def zXp3 (a j : Nat) : Prop := ¬ zXp1 a j ∨ (1 ≤ a ∧ a ≤ 12) ∨ a = 81 ∨ a = 82 ∨ (a = 0 ∧ j = 13)
theorem zXA.lf {σ σ' : qSg} {A : zA} {P R : Nat → Nat → Prop} {C : zC} {D : Bool × (Nat → Nat)} {L : Nat → Nat} (h : zXA σ A) (hW : zAW A) (f : zG P R σ σ') (hP : ∀ a j, P a j → zXp3 a j) (hR : ∀ a j, R a j → ¬ zXp2 a j) (hX : zX σ' 1 C) (hC : C 0 0 = aC A 0 0) (hD : zXtd σ' D) (hL : ∀ j, j < 60 → σ'.1 81 j = nI (L j)) : zXA σ' (sL (sD (sC A C) D) L) := by
  have h3 := hW.2.1
  obtain ⟨k1, k2, k3, k4, k5, k6, k7, k8, k9, k10⟩ := h
  have e : ∀ a j, ¬ zXp3 a j → σ'.1 a j = σ.1 a j := fun a j hn => f.1 a j (fun hp => hn (hP a j hp))
  have e2 : ∀ a j, zXp2 a j → σ'.2 a j = σ.2 a j := fun a j hn => f.2 a j (fun hp => hR a j hp hn)
  refine ⟨⟨hX, ?_, k1.2.2.fr fun a j h1 h2 => e a j (by unfold zXp3 zXp1; omega)⟩, k2.fr h3 (e _ _ (by unfold zXp3 zXp1; omega)) (fun a j _ _ => e _ _ (by unfold zXp3 zXp1; omega)) (fun a j _ _ => e2 _ _ (by unfold zXp2; omega)), k3.fr (fun j => e _ _ (by unfold zXp3 zXp1; omega)) (fun j => e _ _ (by unfold zXp3 zXp1; omega)) (fun j => e2 _ _ (by unfold zXp2; omega)), k4.fr (e _ _ (by unfold zXp3 zXp1; omega)) (fun j => e _ _ (by unfold zXp3 zXp1; omega)), k5.fr (fun j => e2 _ _ (by unfold zXp2; omega)), ⟨?_, ?_⟩, ?_, ⟨?_, ?_⟩, hD, hL⟩
  · show zXnm σ' 1 (C 0 0) A.1.2.1
    rw [hC]
    exact k1.2.1.fr fun j => e2 _ _ (by unfold zXp2; omega)
  · rw [e2 _ _ (by unfold zXp2; omega)]; exact k6.1
  · rw [e2 _ _ (by unfold zXp2; omega)]; exact k6.2
  · rw [e _ _ (by unfold zXp3 zXp1; omega)]; exact k7
  · rw [e _ _ (by unfold zXp3 zXp1; omega)]; exact k8.1
  · rw [e _ _ (by unfold zXp3 zXp1; omega)]; exact k8.2
def zPlv (a j : Nat) : Prop := zPlf 1 a j ∨ a = 82 ∨ (a = 0 ∧ j = 13)
set_option maxRecDepth 20000 in
theorem X_live {σ : qSg} {A : zA} (hA : zXA σ A) (hW : zAW A) (x : Int32) : qCI 8 203 [qr 0, qi x] σ (zXCall σ (yLive A x)) := by
  have hX := hA.x
  have hw := hW.w
  have h5 : aC A 0 5 ≤ 9999 := hW.1.2.1
  have hL := hW.2.2.2.2.2
  obtain ⟨k1, k2, k3, k4, k5, k6, k7, k8, k9, k10⟩ := id hA
  refine qCI.of [some (qr 0), some (qi x)] ok_203 (Nat.le_of_ble_eq_true rfl) rfl ?_
  refine qV.go 30 [35] ok_203 ?_
  simp only [qW_nop, qW_iconst, qW_bipush, qW_ldc2, qW_lconst, qW_iloadn, qW_aloadn, qW_i2l, qW_ifeq, qW_ifne, qW_goto, qW_getf, qW_iast, qW_cs3_0, qW_cv2_0, qW_cv4_2, qW_iret0, qW_putf3, Nat.reduceAdd, Nat.reduceMul, Nat.reduceBEq, Nat.reduceEqDiff, Nat.reduceLT, Nat.reduceLeDiff, Nat.zero_le, nI_add, nI_mul, nI_cl, qin_eq, qofI, qlg_0, qlg_s, qls_i0, qls_r0, qls_l0, qls_1, qls_2, qkl_i, qkl_r, qkl_l, qkl_n, qIsI_i, qIsL_l, qIsR_r, qint_i, qil_i, qil_r, qil_l, qf4_0, qf4_1, qf4_2, qf4_3, qf2_0, qf2_1, qcs_n, qcs_i, qcs_r, qcs_l, qst_n, qst_c, qJ_0, qJ_st, qJ_go, qfl_I, qfl_Z, qfl_L, qfl_R, qrI_i, qrL_l, qrV_v, qRcv_0, qRcv_s, eq_self, true_and, and_true, true_or, or_true, false_and, and_false, false_or, or_false, ite_true, if_true, if_false, Bool.true_or, Bool.false_or, Bool.or_false, beq_self_eq_true, Bool.false_eq_true, bX11_live_0, bX11_live_18, bX11_live_35, bX11_live_122, bX11_live_123, kX11_live_0, kX11_live_18, kX11_live_35, kX11_live_122, kX11_live_123, qK_0, qR_0_0, qK_1, qR_0_1, qK_13, qR_0_2, qK_25, qR_0_3, qK_40, qR_0_4, qK_41, qR_0_5, qK_45, qR_0_6, qK_46, qR_0_7, qK_50, qR_0_8, qK_53, qR_0_9, qK_66, qR_0_10, qK_74, qR_0_11, qK_80, qR_0_12, qK_82, qR_0_14, qK_83, qR_0_15, qK_84, qK_74, qR_74_3, qK_75, qR_74_4, qK_76, qR_74_5, qK_77, qR_74_6, qK_78, qR_74_7, qK_79]
  refine qBI.fn (x_withinI σ x (lo := 0) (hi := 9999) (by decide) (by decide)) (by decide) ?_
  simp (disch := omega) only [nI_leI, nI_ltI, nI_eq, nI_cl, qin_eq, nI_add, nI_mul, qb_z, qb_t, qb_f, nI_ne0', Nat.reduceAdd, Bool.false_eq_true, if_false, if_true, true_and, and_true, Nat.reduceEqDiff, not_true_eq_false, not_false_eq_true, false_implies, true_implies, ite_true, ite_false, Bool.not_eq_false, Bool.not_eq_true]
  refine And.symm ⟨fun g => ?_, fun hz => ?_⟩
  · exact g_no hA hW zCls.rf (by decide) (by unfold yLive; rw [if_pos g]; rfl)
  obtain ⟨s, -, hs, rfl⟩ := zih_nI hz
  rw [k1.2.2.c]
  cases ew : A.1.2.2 with
  | none =>
    simp only [Option.isSome]
    simp (disch := omega) only [nI_leI, nI_ltI, nI_eq, nI_cl, qin_eq, nI_add, nI_mul, qb_z, qb_t, qb_f, nI_ne0', Nat.reduceAdd, Bool.false_eq_true, if_false, if_true, true_and, and_true, Nat.reduceEqDiff, not_true_eq_false, not_false_eq_true, false_implies, true_implies, ite_true, ite_false, Bool.not_eq_false, Bool.not_eq_true]
    refine g_no hA hW zCls.rf (by decide) ?_
    unfold yLive
    rw [if_neg (by rw [hz]; decide), ew]
    rfl
  | some w =>
    simp only [Option.isSome]
    simp (disch := omega) only [nI_leI, nI_ltI, nI_eq, nI_cl, qin_eq, nI_add, nI_mul, qb_z, qb_t, qb_f, nI_ne0', Nat.reduceAdd, Bool.false_eq_true, if_false, if_true, true_and, and_true, Nat.reduceEqDiff, not_true_eq_false, not_false_eq_true, false_implies, true_implies, ite_true, ite_false, Bool.not_eq_false, Bool.not_eq_true]
    have eY : yLive A (nI s) = yOk (sL (sD (sC A (zfin w.1 w.2 (zst0 (aC A) (aL A) s)).1) (true, (zfin w.1 w.2 (zst0 (aC A) (aL A) s)).2.2)) (zfin w.1 w.2 (zst0 (aC A) (aL A) s)).2.1) (nI ((zfin w.1 w.2 (zst0 (aC A) (aL A) s)).2.2 5)) := by
      unfold yLive
      rw [if_neg (by rw [hz]; decide), ew, nI_tn (by omega)]
    rw [eY]
    have hWW := hW.1.2.2.2 w ew
    have hst := zst0_W (seed := s) hw hWW h5 hL (by omega)
    have hfi := zfin_W hst
    have hf0 : ∀ i, i ≠ 1 → i ≠ 5 → (zfin w.1 w.2 (zst0 (aC A) (aL A) s)).1 0 i = aC A 0 i := fun i i1 i5 => by rw [zfin_0 hst i1 i5]; rfl
    have hV := k1.2.2
    rw [ew] at hV
    obtain ⟨hV0, st, hV1⟩ := hV
    refine qV.go 30 [123] ok_203 ?_
    simp only [qW_nop, qW_iconst, qW_bipush, qW_ldc2, qW_lconst, qW_iloadn, qW_aloadn, qW_i2l, qW_ifeq, qW_ifne, qW_goto, qW_getf, qW_iast, qW_cs3_0, qW_cv2_0, qW_cv4_2, qW_iret0, qW_putf3, Nat.reduceAdd, Nat.reduceMul, Nat.reduceBEq, Nat.reduceEqDiff, Nat.reduceLT, Nat.reduceLeDiff, Nat.zero_le, nI_add, nI_mul, nI_cl, qin_eq, qofI, qlg_0, qlg_s, qls_i0, qls_r0, qls_l0, qls_1, qls_2, qkl_i, qkl_r, qkl_l, qkl_n, qIsI_i, qIsL_l, qIsR_r, qint_i, qil_i, qil_r, qil_l, qf4_0, qf4_1, qf4_2, qf4_3, qf2_0, qf2_1, qcs_n, qcs_i, qcs_r, qcs_l, qst_n, qst_c, qJ_0, qJ_st, qJ_go, qfl_I, qfl_Z, qfl_L, qfl_R, qrI_i, qrL_l, qrV_v, qRcv_0, qRcv_s, eq_self, true_and, and_true, true_or, or_true, false_and, and_false, false_or, or_false, ite_true, if_true, if_false, Bool.true_or, Bool.false_or, Bool.or_false, beq_self_eq_true, Bool.false_eq_true, bX11_live_0, bX11_live_18, bX11_live_35, bX11_live_122, bX11_live_123, kX11_live_0, kX11_live_18, kX11_live_35, kX11_live_122, kX11_live_123, qK_0, qR_0_0, qK_1, qR_0_1, qK_13, qR_0_2, qK_25, qR_0_3, qK_40, qR_0_4, qK_41, qR_0_5, qK_45, qR_0_6, qK_46, qR_0_7, qK_50, qR_0_8, qK_53, qR_0_9, qK_66, qR_0_10, qK_74, qR_0_11, qK_80, qR_0_12, qK_82, qR_0_14, qK_83, qR_0_15, qK_84, qK_74, qR_74_3, qK_75, qR_74_4, qK_76, qR_74_5, qK_77, qR_74_6, qK_78, qR_74_7, qK_79, qK_80, qR_80_7, qK_81, qK_1, qR_1_6, qK_2, qR_1_7, qK_3, qR_1_8, qK_4, qR_1_9, qK_5, qR_1_10, qK_6, qR_1_11, qK_7, qR_1_12, qK_8, qR_1_13, qK_9, qR_1_14, qK_10, qR_1_15, qK_11, qR_1_16, qK_12, qK_82]
    refine qBV.of (x_run (r := 1) zCb_n hX k10 hV1 hst) (by decide) (fun σ1 g1 => ?_)
    obtain ⟨S1, f1⟩ := g1
    generalize zfin w.1 w.2 (zst0 (aC A) (aL A) s) = F at hfi hf0 S1 ⊢
    have e80 : ∀ (σ1 : qSg) j v i, (qwi σ1 82 j v).1 80 i = σ1.1 80 i := fun σ1 j v i => by rw [qwi_1, if_neg (by omega)]
    obtain ⟨SX, ⟨r0, r1, r2, r3, r4, r5, r6⟩, SL⟩ := S1
    simp only [e80, r0, r1, r2, r3, r4, r5]
    have h41 : F.2.2 4 ≤ 1 := hfi.2.2.2.2.2.2.2.2.2.1
    have g0 : zG zPlv (fun _ _ => False) σ σ1 := ⟨fun a j hn => f1.1 a j (fun hp => hn (Or.inl hp)), fun a j _ => by rw [f1.2]⟩
    have gw : ∀ (σ1 : qSg) j v, zG zPlv (fun _ _ => False) σ1 (qwi σ1 82 j v) := fun σ1 j v => zG.wi (Or.inr (Or.inl rfl))
    have fr := (((g0.tr (gw _ 0 (nI (F.2.2 0)))).tr (gw _ 1 (nI (F.2.2 1)))).tr (gw _ 2 (nI (F.2.2 2)))).tr (gw _ 3 (nI (F.2.2 3)))
    have key : qV 203 8 (.inl (zXCall σ (yOk (sL (sD (sC A F.1) (true, F.2.2)) F.2.1) (nI (F.2.2 5))))) 123 [some (qr 0), some (qi (nI s))] [qi (nI (F.2.2 4)), qi (nI 4), qr 82] (qwi (qwi (qwi (qwi σ1 82 0 (nI (F.2.2 0))) 82 1 (nI (F.2.2 1))) 82 2 (nI (F.2.2 2))) 82 3 (nI (F.2.2 3))) := by
      refine qV.go 30 [9999] ok_203 ?_
      simp only [qW_nop, qW_iconst, qW_bipush, qW_ldc2, qW_lconst, qW_iloadn, qW_aloadn, qW_i2l, qW_ifeq, qW_ifne, qW_goto, qW_getf, qW_iast, qW_cs3_0, qW_cv2_0, qW_cv4_2, qW_iret0, qW_putf3, Nat.reduceAdd, Nat.reduceMul, Nat.reduceBEq, Nat.reduceEqDiff, Nat.reduceLT, Nat.reduceLeDiff, Nat.zero_le, nI_add, nI_mul, nI_cl, qin_eq, qofI, qlg_0, qlg_s, qls_i0, qls_r0, qls_l0, qls_1, qls_2, qkl_i, qkl_r, qkl_l, qkl_n, qIsI_i, qIsL_l, qIsR_r, qint_i, qil_i, qil_r, qil_l, qf4_0, qf4_1, qf4_2, qf4_3, qf2_0, qf2_1, qcs_n, qcs_i, qcs_r, qcs_l, qst_n, qst_c, qJ_0, qJ_st, qJ_go, qfl_I, qfl_Z, qfl_L, qfl_R, qrI_i, qrL_l, qrV_v, qRcv_0, qRcv_s, eq_self, true_and, and_true, true_or, or_true, false_and, and_false, false_or, or_false, ite_true, if_true, if_false, Bool.true_or, Bool.false_or, Bool.or_false, beq_self_eq_true, Bool.false_eq_true, bX11_live_0, bX11_live_18, bX11_live_35, bX11_live_122, bX11_live_123, kX11_live_0, kX11_live_18, kX11_live_35, kX11_live_122, kX11_live_123, qK_0, qR_0_0, qK_1, qR_0_1, qK_13, qR_0_2, qK_25, qR_0_3, qK_40, qR_0_4, qK_41, qR_0_5, qK_45, qR_0_6, qK_46, qR_0_7, qK_50, qR_0_8, qK_53, qR_0_9, qK_66, qR_0_10, qK_74, qR_0_11, qK_80, qR_0_12, qK_82, qR_0_14, qK_83, qR_0_15, qK_84, qK_80, qR_80_7, qK_81, qK_82]
      have e0 : ∀ (σ1 : qSg) v i, (qwi σ1 0 13 v).1 80 i = σ1.1 80 i := fun σ1 v i => by rw [qwi_1, if_neg (by omega)]
      simp only [e0, e80, r0]
      have fr2 := (fr.tr (gw _ 4 (nI (F.2.2 4)))).tr (zG.wi (P := zPlv) (R := fun _ _ => False) (a := 0) (k := 13) (x := nI 1) (Or.inr (Or.inr ⟨rfl, rfl⟩)))
      have v82 : ∀ j, j < 5 → (qwi (qwi (qwi (qwi (qwi (qwi σ1 82 0 (nI (F.2.2 0))) 82 1 (nI (F.2.2 1))) 82 2 (nI (F.2.2 2))) 82 3 (nI (F.2.2 3))) 82 4 (nI (F.2.2 4))) 0 13 (nI 1)).1 82 j = nI (F.2.2 j) := by
        intro j hj
        rw [qwi_1, if_neg (by omega)]
        rcases (show j = 0 ∨ j = 1 ∨ j = 2 ∨ j = 3 ∨ j = 4 by omega) with rfl | rfl | rfl | rfl | rfl
        · rw [qwi_1, if_neg (by omega), qwi_1, if_neg (by omega), qwi_1, if_neg (by omega), qwi_1, if_neg (by omega), qwi_1, if_pos ⟨rfl, rfl⟩]
        · rw [qwi_1, if_neg (by omega), qwi_1, if_neg (by omega), qwi_1, if_neg (by omega), qwi_1, if_pos ⟨rfl, rfl⟩]
        · rw [qwi_1, if_neg (by omega), qwi_1, if_neg (by omega), qwi_1, if_pos ⟨rfl, rfl⟩]
        · rw [qwi_1, if_neg (by omega), qwi_1, if_pos ⟨rfl, rfl⟩]
        · rw [qwi_1, if_pos ⟨rfl, rfl⟩]
      have v13 : (qwi (qwi (qwi (qwi (qwi (qwi σ1 82 0 (nI (F.2.2 0))) 82 1 (nI (F.2.2 1))) 82 2 (nI (F.2.2 2))) 82 3 (nI (F.2.2 3))) 82 4 (nI (F.2.2 4))) 0 13 (nI 1)).1 0 13 = nI 1 := by rw [qwi_1, if_pos ⟨rfl, rfl⟩]
      have vo : ∀ a j, a ≠ 82 → a ≠ 0 → (qwi (qwi (qwi (qwi (qwi (qwi σ1 82 0 (nI (F.2.2 0))) 82 1 (nI (F.2.2 1))) 82 2 (nI (F.2.2 2))) 82 3 (nI (F.2.2 3))) 82 4 (nI (F.2.2 4))) 0 13 (nI 1)).1 a j = σ1.1 a j := fun a j h1 h2 => by
        rw [qwi_1, if_neg (fun hh => h2 hh.1), qwi_1, if_neg (fun hh => h1 hh.1), qwi_1, if_neg (fun hh => h1 hh.1), qwi_1, if_neg (fun hh => h1 hh.1), qwi_1, if_neg (fun hh => h1 hh.1), qwi_1, if_neg (fun hh => h1 hh.1)]
      generalize qwi (qwi (qwi (qwi (qwi (qwi σ1 82 0 (nI (F.2.2 0))) 82 1 (nI (F.2.2 1))) 82 2 (nI (F.2.2 2))) 82 3 (nI (F.2.2 3))) 82 4 (nI (F.2.2 4))) 0 13 (nI 1) = σ2 at fr2 v82 v13 vo ⊢
      refine g_ok (A1 := sL (sD (sC A F.1) (true, F.2.2)) F.2.1) (hA.lf hW fr2 (fun a j h => ?_) (fun a j h => False.elim h) (SX.fr fun a j h1 h2 => vo a j (by omega) (by omega)) (hf0 0 (by decide) (by decide)) ⟨v13, fun _ => v82⟩ (fun j hj => by rw [vo _ _ (by decide) (by decide)]; exact SL j hj)) (hW.lf ew hfi hf0 _) (zCls.g fr2 (fun a j h => ?_) (fun a j h => False.elim h)) (by decide) rfl
      · unfold zPlv zPlf zXf at h
        unfold zXp3 zXp1
        omega
      · unfold zPlv zPlf zXf at h
        omega
    rw [nI_ne0' (by omega)]
    refine And.symm ⟨fun h => ?_, fun h => ?_⟩
    · rw [show F.2.2 4 = 1 by omega] at key
      exact key
    · rw [h] at key
      exact key
/-- where lives in thought run -/
def zPme (a j : Nat) : Prop := (13 ≤ a ∧ a ≤ 24) ∨ (a = 80 ∧ j ≤ 6) ∨ a = 81
def zRme (a _ : Nat) : Prop := a = 14
set_option maxRecDepth 20000 in
theorem X_mean {σ : qSg} {A : zA} (hA : zXA σ A) (hW : zAW A) (x m : Int32) : qCI 8 205 [qr 0, qi x, qi m] σ (zXCall σ (yMean A x m)) := by
  have hX := hA.x
  have hw := hW.w
  have h5 : aC A 0 5 ≤ 9999 := hW.1.2.1
  have hL := hW.2.2.2.2.2
  obtain ⟨k1, k2, k3, k4, k5, k6, k7, k8, k9, k10⟩ := id hA
  refine qCI.of [some (qr 0), some (qi x), some (qi m), none, none] ok_205 (Nat.le_of_ble_eq_true rfl) rfl ?_
  have no : (zih x 0 9999 && zih m 1 20 && decide (x.toInt + m.toInt ≤ 10000)) = false → qV 205 8 (.inl (zXCall σ (yMean A x m))) 35 [some (qr 0), some (qi x), some (qi m), none, none] [] σ := by
    intro hz
    refine qV.go 30 [9999] ok_205 ?_
    simp only [qW_nop, qW_iconst, qW_bipush, qW_sipush, qW_ldc2, qW_lconst, qW_iloadn, qW_iload, qW_aloadn, qW_istoren, qW_istore, qW_iinc, qW_iadd, qW_isub, qW_i2l, qW_ifeq, qW_ifne, qW_icge, qW_icle, qW_goto, qW_getf, qW_cs1_0, qW_cs3_0, qW_cv1_0, qW_cv2_0, qW_cv2_2, qW_cv3_2, qW_cv4_2, qW_iret1, Nat.reduceAdd, Nat.reduceMul, Nat.reduceBEq, Nat.reduceEqDiff, Nat.reduceLT, Nat.reduceLeDiff, Nat.zero_le, nI_add, nI_mul, nI_cl, qin_eq, qofI, qlg_0, qlg_s, qls_i0, qls_r0, qls_l0, qls_1, qls_2, qkl_i, qkl_r, qkl_l, qkl_n, qIsI_i, qIsL_l, qIsR_r, qint_i, qil_i, qil_r, qil_l, qf4_0, qf4_1, qf4_2, qf4_3, qf2_0, qf2_1, qcs_n, qcs_i, qcs_r, qcs_l, qst_n, qst_c, qJ_0, qJ_st, qJ_go, qfl_I, qfl_Z, qfl_L, qfl_R, qrI_i, qrL_l, qrV_v, qRcv_0, qRcv_s, eq_self, true_and, and_true, true_or, or_true, false_and, and_false, false_or, or_false, ite_true, if_true, if_false, Bool.true_or, Bool.false_or, Bool.or_false, beq_self_eq_true, Bool.false_eq_true, bX11_mean_0, bX11_mean_35, bX11_mean_41, bX11_mean_58, bX11_mean_63, bX11_mean_118, kX11_mean_0, kX11_mean_35, kX11_mean_41, kX11_mean_58, kX11_mean_63, kX11_mean_118, qK_0, qR_0_0, qK_1, qR_0_1, qK_13, qR_0_2, qK_25, qR_0_3, qK_40, qR_0_4, qK_41, qR_0_5, qK_45, qR_0_6, qK_46, qR_0_7, qK_50, qR_0_8, qK_53, qR_0_9, qK_66, qR_0_10, qK_74, qR_0_11, qK_80, qR_0_12, qK_82, qR_0_14, qK_83, qR_0_15, qK_84]
    exact g_deny hA hW zCls.rf (by decide) (by unfold yMean; rw [if_pos hz]; rfl)
  refine qV.go 30 [35, 41] ok_205 ?_
  simp only [qW_nop, qW_iconst, qW_bipush, qW_sipush, qW_ldc2, qW_lconst, qW_iloadn, qW_iload, qW_aloadn, qW_istoren, qW_istore, qW_iinc, qW_iadd, qW_isub, qW_i2l, qW_ifeq, qW_ifne, qW_icge, qW_icle, qW_goto, qW_getf, qW_cs1_0, qW_cs3_0, qW_cv1_0, qW_cv2_0, qW_cv2_2, qW_cv3_2, qW_cv4_2, qW_iret1, Nat.reduceAdd, Nat.reduceMul, Nat.reduceBEq, Nat.reduceEqDiff, Nat.reduceLT, Nat.reduceLeDiff, Nat.zero_le, nI_add, nI_mul, nI_cl, qin_eq, qofI, qlg_0, qlg_s, qls_i0, qls_r0, qls_l0, qls_1, qls_2, qkl_i, qkl_r, qkl_l, qkl_n, qIsI_i, qIsL_l, qIsR_r, qint_i, qil_i, qil_r, qil_l, qf4_0, qf4_1, qf4_2, qf4_3, qf2_0, qf2_1, qcs_n, qcs_i, qcs_r, qcs_l, qst_n, qst_c, qJ_0, qJ_st, qJ_go, qfl_I, qfl_Z, qfl_L, qfl_R, qrI_i, qrL_l, qrV_v, qRcv_0, qRcv_s, eq_self, true_and, and_true, true_or, or_true, false_and, and_false, false_or, or_false, ite_true, if_true, if_false, Bool.true_or, Bool.false_or, Bool.or_false, beq_self_eq_true, Bool.false_eq_true, bX11_mean_0, bX11_mean_35, bX11_mean_41, bX11_mean_58, bX11_mean_63, bX11_mean_118, kX11_mean_0, kX11_mean_35, kX11_mean_41, kX11_mean_58, kX11_mean_63, kX11_mean_118, qK_0, qR_0_0, qK_1, qR_0_1, qK_13, qR_0_2, qK_25, qR_0_3, qK_40, qR_0_4, qK_41, qR_0_5, qK_45, qR_0_6, qK_46, qR_0_7, qK_50, qR_0_8, qK_53, qR_0_9, qK_66, qR_0_10, qK_74, qR_0_11, qK_80, qR_0_12, qK_82, qR_0_14, qK_83, qR_0_15, qK_84, qK_74, qR_74_3, qK_75, qR_74_4, qK_76, qR_74_5, qK_77, qR_74_6, qK_78, qR_74_7, qK_79]
  refine qBI.fn (x_withinI σ x (lo := 0) (hi := 9999) (by decide) (by decide)) (by decide) ?_
  simp (disch := omega) only [nI_leI, nI_ltI, nI_eq, nI_cl, qin_eq, nI_add, nI_mul, qb_z, qb_t, qb_f, nI_ne0', Nat.reduceAdd, Bool.false_eq_true, if_false, if_true, true_and, and_true, Nat.reduceEqDiff, not_true_eq_false, not_false_eq_true, false_implies, true_implies, ite_true, ite_false, Bool.not_eq_false, Bool.not_eq_true]
  refine ⟨fun g => no (by rw [g]; rfl), fun g => ?_⟩
  refine qBI.fn (x_withinI σ m (lo := 1) (hi := 20) (by decide) (by decide)) (by decide) ?_
  simp (disch := omega) only [nI_leI, nI_ltI, nI_eq, nI_cl, qin_eq, nI_add, nI_mul, qb_z, qb_t, qb_f, nI_ne0', Nat.reduceAdd, Bool.false_eq_true, if_false, if_true, true_and, and_true, Nat.reduceEqDiff, not_true_eq_false, not_false_eq_true, false_implies, true_implies, ite_true, ite_false, Bool.not_eq_false, Bool.not_eq_true]
  refine ⟨fun g1 => no (by rw [g1, Bool.and_false]; rfl), fun g1 => ?_⟩
  obtain ⟨s, -, hs, rfl⟩ := zih_nI g
  obtain ⟨k, hk1, hk2, rfl⟩ := zih_nI g1
  simp (disch := omega) only [nI_leI, nI_ltI, nI_eq, nI_cl, qin_eq, nI_add, nI_mul, qb_z, qb_t, qb_f, nI_ne0', Nat.reduceAdd, Bool.false_eq_true, if_false, if_true, true_and, and_true, Nat.reduceEqDiff, not_true_eq_false, not_false_eq_true, false_implies, true_implies, ite_true, ite_false]
  rw [nI_sub (by omega)]
  simp (disch := omega) only [nI_leI, nI_ltI, nI_eq, nI_cl, qin_eq, nI_add, nI_mul, qb_z, qb_t, qb_f, nI_ne0', Nat.reduceAdd, Bool.false_eq_true, if_false, if_true, true_and, and_true, Nat.reduceEqDiff, not_true_eq_false, not_false_eq_true, false_implies, true_implies, ite_true, ite_false]
  have et : (nI s).toInt + (nI k).toInt = ((s + k : Nat) : Int) := by rw [nI_t (by omega), nI_t (by omega)]; omega
  refine And.symm ⟨fun g2 => no (by rw [et, decide_eq_false (by omega), Bool.and_false]), fun g2 => ?_⟩
  have g3 : s + k ≤ 10000 := by omega
  clear no
  refine qV.go 30 [63] ok_205 ?_
  simp only [qW_nop, qW_iconst, qW_bipush, qW_sipush, qW_ldc2, qW_lconst, qW_iloadn, qW_iload, qW_aloadn, qW_istoren, qW_istore, qW_iinc, qW_iadd, qW_isub, qW_i2l, qW_ifeq, qW_ifne, qW_icge, qW_icle, qW_goto, qW_getf, qW_cs1_0, qW_cs3_0, qW_cv1_0, qW_cv2_0, qW_cv2_2, qW_cv3_2, qW_cv4_2, qW_iret1, Nat.reduceAdd, Nat.reduceMul, Nat.reduceBEq, Nat.reduceEqDiff, Nat.reduceLT, Nat.reduceLeDiff, Nat.zero_le, nI_add, nI_mul, nI_cl, qin_eq, qofI, qlg_0, qlg_s, qls_i0, qls_r0, qls_l0, qls_1, qls_2, qkl_i, qkl_r, qkl_l, qkl_n, qIsI_i, qIsL_l, qIsR_r, qint_i, qil_i, qil_r, qil_l, qf4_0, qf4_1, qf4_2, qf4_3, qf2_0, qf2_1, qcs_n, qcs_i, qcs_r, qcs_l, qst_n, qst_c, qJ_0, qJ_st, qJ_go, qfl_I, qfl_Z, qfl_L, qfl_R, qrI_i, qrL_l, qrV_v, qRcv_0, qRcv_s, eq_self, true_and, and_true, true_or, or_true, false_and, and_false, false_or, or_false, ite_true, if_true, if_false, Bool.true_or, Bool.false_or, Bool.or_false, beq_self_eq_true, Bool.false_eq_true, bX11_mean_0, bX11_mean_35, bX11_mean_41, bX11_mean_58, bX11_mean_63, bX11_mean_118, kX11_mean_0, kX11_mean_35, kX11_mean_41, kX11_mean_58, kX11_mean_63, kX11_mean_118, qK_0, qR_0_0, qK_1, qR_0_1, qK_13, qR_0_2, qK_25, qR_0_3, qK_40, qR_0_4, qK_41, qR_0_5, qK_45, qR_0_6, qK_46, qR_0_7, qK_50, qR_0_8, qK_53, qR_0_9, qK_66, qR_0_10, qK_74, qR_0_11, qK_80, qR_0_12, qK_82, qR_0_14, qK_83, qR_0_15, qK_84, qK_74, qR_74_3, qK_75, qR_74_4, qK_76, qR_74_5, qK_77, qR_74_6, qK_78, qR_74_7, qK_79]
  rw [k1.2.2.c]
  cases ew : A.1.2.2 with
  | none =>
    simp only [Option.isSome]
    simp (disch := omega) only [nI_leI, nI_ltI, nI_eq, nI_cl, qin_eq, nI_add, nI_mul, qb_z, qb_t, qb_f, nI_ne0', Nat.reduceAdd, Bool.false_eq_true, if_false, if_true, true_and, and_true, Nat.reduceEqDiff, not_true_eq_false, not_false_eq_true, false_implies, true_implies, ite_true, ite_false, Bool.not_eq_false, Bool.not_eq_true]
    refine g_deny hA hW zCls.rf (by decide) ?_
    unfold yMean
    rw [if_neg (by rw [g, g1, et, decide_eq_true (by omega)]; decide), ew]
    rfl
  | some w =>
    simp only [Option.isSome]
    simp (disch := omega) only [nI_leI, nI_ltI, nI_eq, nI_cl, qin_eq, nI_add, nI_mul, qb_z, qb_t, qb_f, nI_ne0', Nat.reduceAdd, Bool.false_eq_true, if_false, if_true, true_and, and_true, Nat.reduceEqDiff, not_true_eq_false, not_false_eq_true, false_implies, true_implies, ite_true, ite_false, Bool.not_eq_false, Bool.not_eq_true]
    have eY : yMean A (nI s) (nI k) = yT (sF (sL A (zmean w.1 w.2 (aC A) (aL A) s k).2) (zfrac (zmean w.1 w.2 (aC A) (aL A) s k).1 k)) := by
      unfold yMean
      rw [if_neg (by rw [g, g1, et, decide_eq_true (by omega)]; decide), ew, nI_tn (by omega), nI_tn (by omega)]
    rw [eY]
    have hWW := hW.1.2.2.2 w ew
    have hV := k1.2.2
    rw [ew] at hV
    obtain ⟨hV0, st, hV1⟩ := hV
    have zm1 : ∀ i, i ≤ k → (zmean w.1 w.2 (aC A) (aL A) s i).1 ≤ 10 * i := by
      intro i
      induction i with
      | zero => intro _; exact Nat.le_refl _
      | succ i ih =>
        intro hi
        have hst := zst0_W (seed := s + i) hw hWW h5 (zmean_L hw hWW h5 hL g3 i (by omega)) (by omega)
        have hfi := zfin_W hst
        have ho := zopens_lt hfi.1
        have hp := zpop_le (k := 10) (n := zopens (zfin w.1 w.2 (zst0 (aC A) (zmean w.1 w.2 (aC A) (aL A) s i).2 (s + i))).1) (by omega)
        have := ih (by omega)
        simp only [zmean]
        omega
    refine qdown (n := k) (P := fun i => ∀ σ1, zG zPme zRme σ σ1 → (∀ j, j < 60 → σ1.1 81 j = nI ((zmean w.1 w.2 (aC A) (aL A) s i).2 j)) → qV 205 8 (.inl (zXCall σ (yT (sF (sL A (zmean w.1 w.2 (aC A) (aL A) s k).2) (zfrac (zmean w.1 w.2 (aC A) (aL A) s k).1 k))))) 63 [some (qr 0), some (qi (nI s)), some (qi (nI k)), some (qi (nI (zmean w.1 w.2 (aC A) (aL A) s i).1)), some (qi (nI i))] [] σ1) (fun i hi ih => ?_) 0 (Nat.zero_le _) σ zG.rf k10
    intro σ1 f1 l1
    have a1 : ∀ a j, ¬ zPme a j → σ1.1 a j = σ.1 a j := f1.1
    have X1 : zX σ1 1 (aC A) := hX.fr fun a j h1 h2 => a1 a j (by unfold zPme; omega)
    refine qV.go 30 [63] ok_205 ?_
    simp only [qW_nop, qW_iconst, qW_bipush, qW_sipush, qW_ldc2, qW_lconst, qW_iloadn, qW_iload, qW_aloadn, qW_istoren, qW_istore, qW_iinc, qW_iadd, qW_isub, qW_i2l, qW_ifeq, qW_ifne, qW_icge, qW_icle, qW_goto, qW_getf, qW_cs1_0, qW_cs3_0, qW_cv1_0, qW_cv2_0, qW_cv2_2, qW_cv3_2, qW_cv4_2, qW_iret1, Nat.reduceAdd, Nat.reduceMul, Nat.reduceBEq, Nat.reduceEqDiff, Nat.reduceLT, Nat.reduceLeDiff, Nat.zero_le, nI_add, nI_mul, nI_cl, qin_eq, qofI, qlg_0, qlg_s, qls_i0, qls_r0, qls_l0, qls_1, qls_2, qkl_i, qkl_r, qkl_l, qkl_n, qIsI_i, qIsL_l, qIsR_r, qint_i, qil_i, qil_r, qil_l, qf4_0, qf4_1, qf4_2, qf4_3, qf2_0, qf2_1, qcs_n, qcs_i, qcs_r, qcs_l, qst_n, qst_c, qJ_0, qJ_st, qJ_go, qfl_I, qfl_Z, qfl_L, qfl_R, qrI_i, qrL_l, qrV_v, qRcv_0, qRcv_s, eq_self, true_and, and_true, true_or, or_true, false_and, and_false, false_or, or_false, ite_true, if_true, if_false, Bool.true_or, Bool.false_or, Bool.or_false, beq_self_eq_true, Bool.false_eq_true, bX11_mean_0, bX11_mean_35, bX11_mean_41, bX11_mean_58, bX11_mean_63, bX11_mean_118, kX11_mean_0, kX11_mean_35, kX11_mean_41, kX11_mean_58, kX11_mean_63, kX11_mean_118, qK_0, qR_0_0, qK_1, qR_0_1, qK_13, qR_0_2, qK_25, qR_0_3, qK_40, qR_0_4, qK_41, qR_0_5, qK_45, qR_0_6, qK_46, qR_0_7, qK_50, qR_0_8, qK_53, qR_0_9, qK_66, qR_0_10, qK_74, qR_0_11, qK_80, qR_0_12, qK_82, qR_0_14, qK_83, qR_0_15, qK_84, qK_1, qR_1_6, qK_2, qR_1_7, qK_3, qR_1_8, qK_4, qR_1_9, qK_5, qR_1_10, qK_6, qR_1_11, qK_7, qR_1_12, qK_8, qR_1_13, qK_9, qR_1_14, qK_10, qR_1_15, qK_11, qR_1_16, qK_12, qK_13, qR_13_6, qK_14, qR_13_7, qK_15, qR_13_8, qK_16, qR_13_9, qK_17, qR_13_10, qK_18, qR_13_11, qK_19, qR_13_12, qK_20, qR_13_13, qK_21, qR_13_14, qK_22, qR_13_15, qK_23, qR_13_16, qK_24, qK_74, qR_74_3, qK_75, qR_74_4, qK_76, qR_74_5, qK_77, qR_74_6, qK_78, qR_74_7, qK_79, qK_80, qR_80_7, qK_81]
    simp (disch := omega) only [nI_leI, nI_ltI, nI_eq, nI_cl, qin_eq, nI_add, nI_mul, qb_z, qb_t, qb_f, nI_ne0', Nat.reduceAdd, Bool.false_eq_true, if_false, if_true, true_and, and_true, Nat.reduceEqDiff, not_true_eq_false, not_false_eq_true, false_implies, true_implies, ite_true, ite_false]
    refine And.symm ⟨fun h => ?_, fun h => ?_⟩
    · have hi1 : i < k := by omega
      have hst := zst0_W (seed := s + i) hw hWW h5 (zmean_L hw hWW h5 hL g3 i (by omega)) (by omega)
      have hfi := zfin_W hst
      refine qBV.of (x_copy zCb_t zCb_n (by decide) X1 hw) (by decide) (fun σ2 g2 => ?_)
      obtain ⟨X2, -, f2⟩ := g2
      have a2 : ∀ a j, ¬ (13 ≤ a ∧ a ≤ 24) → σ2.1 a j = σ1.1 a j := fun a j hn => f2.1 a j (by unfold zXf; omega)
      refine qBV.of (x_run (r := 13) zCb_t X2 (fun j hj => by rw [a2 _ _ (by omega)]; exact l1 j hj) (hV1.fr fun a j h1 h2 => by rw [a2 _ _ (by omega), a1 _ _ (by unfold zPme; omega)]) hst) (by decide) (fun σ3 g3 => ?_)
      obtain ⟨⟨SX, -, SL⟩, f3⟩ := g3
      refine qBI.fn (x_openSet zCb_t SX.1 hfi.1) (by decide) ?_
      have ho := zopens_lt hfi.1
      refine qBI.fn (x_bits σ3 (by omega)) (by decide) ?_
      have z0 := zm1 i (by omega)
      have z1 := zm1 (i + 1) (by omega)
      simp only [zmean] at z1
      simp (disch := omega) only [nI_leI, nI_ltI, nI_eq, nI_cl, qin_eq, nI_add, nI_mul, qb_z, qb_t, qb_f, nI_ne0', Nat.reduceAdd, Bool.false_eq_true, if_false, if_true, true_and, and_true, Nat.reduceEqDiff, not_true_eq_false, not_false_eq_true, false_implies, true_implies, ite_true, ite_false]
      have := ih hi1 σ3 ((f1.tr (f2.wk (fun a j h => by unfold zXf at h; unfold zPme; omega) (fun a j h => h))).tr ⟨fun a j hn => f3.1 a j (fun hp => hn (by unfold zPlf zXf at hp; unfold zPme; omega)), fun a j _ => by rw [f3.2]⟩) SL
      exact this
    · have hik : i = k := by omega
      subst hik
      have S1 : zXA σ1 (sL (sD (sC A (aC A)) (aD A)) (zmean w.1 w.2 (aC A) (aL A) s i).2) := hA.lf hW f1 (fun a j h => by unfold zPme at h; unfold zXp3 zXp1; omega) (fun a j h => by unfold zRme at h; unfold zXp2; omega) X1 rfl (k9.fr (a1 _ _ (by unfold zPme; omega)) (fun j => a1 _ _ (by unfold zPme; omega))) l1
      have S1 : zXA σ1 (sL A (zmean w.1 w.2 (aC A) (aL A) s i).2) := S1
      have W1 : zAW (sL A (zmean w.1 w.2 (aC A) (aL A) s i).2) := ⟨hW.1, hW.2.1, hW.2.2.1, hW.2.2.2.1, hW.2.2.2.2.1, zmean_L hw hWW h5 hL g3 i (Nat.le_refl _)⟩
      have c1 : zCls σ σ1 := zCls.g f1 (fun a j h => by unfold zPme at h; omega) (fun a j h => by unfold zRme at h; omega)
      have z0 := zm1 i (by omega)
      rw [nI_l' (by omega), nI_l' (by omega)]
      refine qBV.of (X_tellFraction σ1 (by omega) (by omega) (by omega)) (by decide) (fun σ2 g2 => ?_)
      subst g2
      have F := S1.fr (zmean w.1 w.2 (aC A) (aL A) s i).1 i
      exact g_grant F.1 W1 (c1.tr F.2) (by decide) rfl
