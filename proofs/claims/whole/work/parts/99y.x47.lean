/-! the class's calls: marks -/
theorem zXwk.un {σ : qSg} {w : Nat} {o : Option ((Nat → Nat → Nat) × Nat)} (h : zXwk σ w o) (hn : ∀ x, o = some x → x.2 ≤ 60) : ∃ W n st b, zXW σ w W n st ∧ n ≤ 60 ∧ σ.1 w 0 = qb b ∧ ∀ (σ' : qSg) r, zXW σ' r W n st → σ'.1 r 0 = qb b → zXwk σ' r o := by
  cases o with
  | none =>
    obtain ⟨h1, st, h2⟩ := h
    exact ⟨_, 0, st, false, h2, Nat.zero_le _, h1, fun σ' r a b => ⟨b, st, a⟩⟩
  | some x =>
    obtain ⟨h1, st, h2⟩ := h
    exact ⟨_, _, st, true, h2, hn x rfl, h1, fun σ' r a b => ⟨b, st, a⟩⟩
/-- a camp with its weeks copied -/
theorem zXK.cp {σ σ1 σ2 : qSg} {r s v : Nat} {k : zK} (hv : zWb v) (hr : zCb r) (ha : r + 11 < v ∨ v + 5 < r) (hk : zKW k) (h1 : zX σ1 r k.1) (hn : ∀ j, j < 8 → σ1.2 (r + 1) j = σ.2 (s + 1) j) (hN : zXnm σ s (k.1 0 0) k.2.1) (f2 : zF (zWf v) σ1 σ2) {W : Nat → Nat → Nat} {n st : Nat} {b : Bool} (hW : zXW σ2 v W n st) (hb : σ2.1 v 0 = qb b) (un : ∀ (σ' : qSg) r, zXW σ' r W n st → σ'.1 r 0 = qb b → zXwk σ' r k.2.2) : zXK σ2 r v k := by
  have wb := hk.1.1
  refine ⟨h1.fr fun a j e1 e2 => f2.1 _ _ (by unfold zWf; omega), fun b1 hb1 => ?_, un σ2 v hW hb⟩
  rw [f2.2, hn b1 (by omega)]
  exact hN b1 hb1
set_option maxRecDepth 20000 in
theorem X_mark {σ : qSg} {A : zA} (hA : zXA σ A) (hW : zAW A) : qCI 2 206 [qr 0] σ (zXCall σ (yMark A)) := by
  obtain ⟨w1, w2, w3, w4⟩ := id hW
  obtain ⟨k1, k2, k3, k4, k5, k6, k7, k8, k9, k10⟩ := id hA
  have e0 := k2.1
  have key : ∀ i, i < 3 → (aM A).1 = i → qV 206 2 (.inl (zXCall σ (yMark A))) 55 [some (qr 0), some (qr (85 + 18 * i)), some (qr (97 + 18 * i))] [] σ := by
    intro i hi ei
    have eY : yMark A = yOk (sM A (i + 1, fun j => if j = i + 1 then A.1 else (aM A).2 j)) (nI (i + 1)) := by
      unfold yMark
      rw [ei, if_neg (by omega)]
    rw [eY]
    rw [ei] at e0 w3
    have hcb : zCb (85 + 18 * i) := by unfold zCb; omega
    have hwb : zWb (97 + 18 * i) := by unfold zWb; omega
    obtain ⟨W, n, st, b, u1, u2, u3, u4⟩ := k1.2.2.un hW.1.w
    refine qV.go 30 [9999] ok_206 ?_
    simp only [qW_nop, qW_iconst, qW_aloadn, qW_astoren, qW_iadd, qW_dup, qW_iflt, qW_iclt, qW_ifnull, qW_ifnonnull, qW_getf, qW_aald, qW_cv2_0, qW_cv2_2, qW_iret0, qW_putf0, Nat.reduceAdd, Nat.reduceMul, Nat.reduceBEq, Nat.reduceEqDiff, Nat.reduceLT, Nat.reduceLeDiff, Nat.zero_le, nI_add, nI_mul, nI_cl, qin_eq, qofI, qlg_0, qlg_s, qls_i0, qls_r0, qls_l0, qls_1, qls_2, qkl_i, qkl_r, qkl_l, qkl_n, qIsI_i, qIsL_l, qIsR_r, qint_i, qil_i, qil_r, qil_l, qf4_0, qf4_1, qf4_2, qf4_3, qf2_0, qf2_1, qcs_n, qcs_i, qcs_r, qcs_l, qst_n, qst_c, qJ_0, qJ_st, qJ_go, qfl_I, qfl_Z, qfl_L, qfl_R, qrI_i, qrL_l, qrV_v, qRcv_0, qRcv_s, eq_self, true_and, and_true, true_or, or_true, false_and, and_false, false_or, or_false, ite_true, if_true, if_false, Bool.true_or, Bool.false_or, Bool.or_false, beq_self_eq_true, Bool.false_eq_true, bX11_mark_0, bX11_mark_15, bX11_mark_21, bX11_mark_49, bX11_mark_55, kX11_mark_0, kX11_mark_15, kX11_mark_21, kX11_mark_49, kX11_mark_55, qK_0, qR_0_0, qK_1, qR_0_1, qK_13, qR_0_2, qK_25, qR_0_3, qK_40, qR_0_4, qK_41, qR_0_5, qK_45, qR_0_6, qK_46, qR_0_7, qK_50, qR_0_8, qK_53, qR_0_9, qK_66, qR_0_10, qK_74, qR_0_11, qK_80, qR_0_12, qK_82, qR_0_14, qK_83, qR_0_15, qK_84, qK_1, qR_1_6, qK_2, qR_1_7, qK_3, qR_1_8, qK_4, qR_1_9, qK_5, qR_1_10, qK_6, qR_1_11, qK_7, qR_1_12, qK_8, qR_1_13, qK_9, qR_1_14, qK_10, qR_1_15, qK_11, qR_1_16, qK_12, qK_74, qR_74_3, qK_75, qR_74_4, qK_76, qR_74_5, qK_77, qR_74_6, qK_78, qR_74_7, qK_79]
    refine ⟨by rw [zCb_k hcb], ?_⟩
    refine qBV.of (x_copy hcb zCb_n (by omega) k1.1 hW.w) (by decide) (fun σ1 g1 => ?_)
    obtain ⟨X1, n1, f1⟩ := g1
    have a1 : ∀ a j, ¬ (85 + 18 * i ≤ a ∧ a ≤ 96 + 18 * i) → σ1.1 a j = σ.1 a j := fun a j hn => f1.1 a j (by unfold zXf; omega)
    refine ⟨by rw [zWb_k hwb], ?_⟩
    refine qBV.of (x_copyW hwb (Or.inr (Or.inl rfl)) (by omega) (u1.fr fun a j h1 h2 => a1 a j (by omega)) u2 (b := b) (by rw [a1 _ _ (by omega)]; exact u3)) (by decide) (fun σ2 g2 => ?_)
    obtain ⟨W2, b2, f2⟩ := g2
    have a2 : ∀ a j, ¬ (85 + 18 * i ≤ a ∧ a ≤ 102 + 18 * i) → σ2.1 a j = σ.1 a j := fun a j hn => by rw [f2.1 a j (by unfold zWf; omega), a1 a j (by omega)]
    have l2 : ∀ a j, a ≠ 86 + 18 * i → σ2.2 a j = σ.2 a j := fun a j hn => by rw [f2.2, f1.2 a j (by omega)]
    have K2 : zXK σ2 (85 + 18 * i) (97 + 18 * i) A.1 := zXK.cp hwb hcb (by omega) w1 X1 n1 k1.2.1 f2 W2 b2 u4
    have e1 : σ2.1 0 16 = nI i := by rw [a2 _ _ (by omega)]; exact e0
    rw [e1]
    simp (disch := omega) only [nI_leI, nI_ltI, nI_eq, nI_cl, qin_eq, nI_add, nI_mul, qb_z, qb_t, qb_f, nI_ne0', Nat.reduceAdd, Bool.false_eq_true, if_false, if_true, true_and, and_true, Nat.reduceEqDiff, not_true_eq_false, not_false_eq_true, false_implies, true_implies, ite_true, ite_false]
    have e3 : (qwi σ2 0 16 (nI (i + 1))).1 0 16 = nI (i + 1) := by rw [qwi_1, if_pos ⟨rfl, rfl⟩]
    rw [e3]
    have a3 : ∀ a j, ¬ (85 + 18 * i ≤ a ∧ a ≤ 102 + 18 * i) → ¬ (a = 0 ∧ j = 16) → (qwi σ2 0 16 (nI (i + 1))).1 a j = σ.1 a j := fun a j h1 h2 => by rw [qwi_1, if_neg h2, a2 a j h1]
    have l3 : ∀ a j, a ≠ 86 + 18 * i → (qwi σ2 0 16 (nI (i + 1))).2 a j = σ.2 a j := fun a j hn => by rw [qwi_2, l2 a j hn]
    have K3 : zXK (qwi σ2 0 16 (nI (i + 1))) (85 + 18 * i) (97 + 18 * i) A.1 := K2.fr (fun a j h => by rw [qwi_1, if_neg (by omega)]) (fun j => by rw [qwi_2])
    have fr : zCls σ (qwi σ2 0 16 (nI (i + 1))) := ⟨fun a j hn => a3 a j (by omega) (by omega), fun a j hn => l3 a j (by omega)⟩
    generalize qwi σ2 0 16 (nI (i + 1)) = σ3 at e3 a3 l3 K3 fr ⊢
    refine g_ok (A1 := sM A (i + 1, fun j => if j = i + 1 then A.1 else (aM A).2 j)) ?_ ?_ fr (by decide) rfl
    · refine ⟨k1.fr (fun a j ha => a3 _ _ (by omega) (by omega)) (fun j => l3 _ _ (by omega)), ⟨e3, fun i' i1 i2 => ?_⟩, k3.fr (fun j => a3 _ _ (by omega) (by omega)) (fun j => a3 _ _ (by omega) (by omega)) (fun j => l3 _ _ (by omega)), k4.fr (a3 _ _ (by omega) (by omega)) (fun j => a3 _ _ (by omega) (by omega)), k5.fr (fun j => l3 _ _ (by omega)), ⟨?_, ?_⟩, ?_, ⟨?_, ?_⟩, k9.fr (a3 _ _ (by omega) (by omega)) (fun j => a3 _ _ (by omega) (by omega)), fun j hj => ?_⟩
      · have i2 : i' ≤ i + 1 := i2
        show zXK σ3 (67 + 18 * i') (79 + 18 * i') (if i' = i + 1 then A.1 else (aM A).2 i')
        by_cases e : i' = i + 1
        · rw [if_pos e, show 67 + 18 * i' = 85 + 18 * i by omega, show 79 + 18 * i' = 97 + 18 * i by omega]
          exact K3
        · rw [if_neg e]
          exact (k2.2 i' i1 (by omega)).fr (fun a j ha => a3 _ _ (by omega) (by omega)) (fun j => l3 _ _ (by omega))
      · rw [l3 _ _ (by omega)]; exact k6.1
      · rw [l3 _ _ (by omega)]; exact k6.2
      · rw [a3 _ _ (by omega) (by omega)]; exact k7
      · rw [a3 _ _ (by omega) (by omega)]; exact k8.1
      · rw [a3 _ _ (by omega) (by omega)]; exact k8.2
      · rw [a3 _ _ (by omega) (by omega)]; exact k10 j hj
    · refine ⟨w1, (by show i + 1 ≤ 3; omega), fun i' i1 i2 => ?_, w4⟩
      have i2 : i' ≤ i + 1 := i2
      show zKW (if i' = i + 1 then A.1 else (aM A).2 i')
      split
      · exact w1
      · exact w3 i' i1 (by omega)
  refine qCI.of [some (qr 0), none, none] ok_206 (Nat.le_of_ble_eq_true rfl) rfl ?_
  refine qV.go 30 [55] ok_206 ?_
  simp only [qW_nop, qW_iconst, qW_aloadn, qW_astoren, qW_iadd, qW_dup, qW_iflt, qW_iclt, qW_ifnull, qW_ifnonnull, qW_getf, qW_aald, qW_cv2_0, qW_cv2_2, qW_iret0, qW_putf0, Nat.reduceAdd, Nat.reduceMul, Nat.reduceBEq, Nat.reduceEqDiff, Nat.reduceLT, Nat.reduceLeDiff, Nat.zero_le, nI_add, nI_mul, nI_cl, qin_eq, qofI, qlg_0, qlg_s, qls_i0, qls_r0, qls_l0, qls_1, qls_2, qkl_i, qkl_r, qkl_l, qkl_n, qIsI_i, qIsL_l, qIsR_r, qint_i, qil_i, qil_r, qil_l, qf4_0, qf4_1, qf4_2, qf4_3, qf2_0, qf2_1, qcs_n, qcs_i, qcs_r, qcs_l, qst_n, qst_c, qJ_0, qJ_st, qJ_go, qfl_I, qfl_Z, qfl_L, qfl_R, qrI_i, qrL_l, qrV_v, qRcv_0, qRcv_s, eq_self, true_and, and_true, true_or, or_true, false_and, and_false, false_or, or_false, ite_true, if_true, if_false, Bool.true_or, Bool.false_or, Bool.or_false, beq_self_eq_true, Bool.false_eq_true, bX11_mark_0, bX11_mark_15, bX11_mark_21, bX11_mark_49, bX11_mark_55, kX11_mark_0, kX11_mark_15, kX11_mark_21, kX11_mark_49, kX11_mark_55, qK_0, qR_0_0, qK_1, qR_0_1, qK_13, qR_0_2, qK_25, qR_0_3, qK_40, qR_0_4, qK_41, qR_0_5, qK_45, qR_0_6, qK_46, qR_0_7, qK_50, qR_0_8, qK_53, qR_0_9, qK_66, qR_0_10, qK_74, qR_0_11, qK_80, qR_0_12, qK_82, qR_0_14, qK_83, qR_0_15, qK_84, qK_83, qR_83_0, qK_85, qR_83_1, qK_103, qR_83_2, qK_121, qK_84, qR_84_0, qK_97, qR_84_1, qK_115, qR_84_2, qK_133]
  rw [e0]
  generalize hmm : (aM A).1 = m at e0 key
  have m3 : m ≤ 3 := by omega
  refine ⟨fun h => absurd h (nI_pos (by omega)), fun _ => ?_⟩
  simp (disch := omega) only [nI_leI, nI_ltI, nI_eq, nI_cl, qin_eq, nI_add, nI_mul, qb_z, qb_t, qb_f, nI_ne0', Nat.reduceAdd, Bool.false_eq_true, if_false, if_true, true_and, and_true, Nat.reduceEqDiff, not_true_eq_false, not_false_eq_true, false_implies, true_implies, ite_true, ite_false]
  refine ⟨fun h => ?_, fun h => ?_⟩
  · have q1 : qRf 83 m = some (85 + 18 * m) := by
      rcases (show m = 0 ∨ m = 1 ∨ m = 2 by omega) with rfl | rfl | rfl <;> rfl
    have q2 : qRf 84 m = some (97 + 18 * m) := by
      rcases (show m = 0 ∨ m = 1 ∨ m = 2 by omega) with rfl | rfl | rfl <;> rfl
    rw [q1]
    simp only [qW_nop, qW_iconst, qW_aloadn, qW_astoren, qW_iadd, qW_dup, qW_iflt, qW_iclt, qW_ifnull, qW_ifnonnull, qW_getf, qW_aald, qW_cv2_0, qW_cv2_2, qW_iret0, qW_putf0, Nat.reduceAdd, Nat.reduceMul, Nat.reduceBEq, Nat.reduceEqDiff, Nat.reduceLT, Nat.reduceLeDiff, Nat.zero_le, nI_add, nI_mul, nI_cl, qin_eq, qofI, qlg_0, qlg_s, qls_i0, qls_r0, qls_l0, qls_1, qls_2, qkl_i, qkl_r, qkl_l, qkl_n, qIsI_i, qIsL_l, qIsR_r, qint_i, qil_i, qil_r, qil_l, qf4_0, qf4_1, qf4_2, qf4_3, qf2_0, qf2_1, qcs_n, qcs_i, qcs_r, qcs_l, qst_n, qst_c, qJ_0, qJ_st, qJ_go, qfl_I, qfl_Z, qfl_L, qfl_R, qrI_i, qrL_l, qrV_v, qRcv_0, qRcv_s, eq_self, true_and, and_true, true_or, or_true, false_and, and_false, false_or, or_false, ite_true, if_true, if_false, Bool.true_or, Bool.false_or, Bool.or_false, beq_self_eq_true, Bool.false_eq_true, bX11_mark_0, bX11_mark_15, bX11_mark_21, bX11_mark_49, bX11_mark_55, kX11_mark_0, kX11_mark_15, kX11_mark_21, kX11_mark_49, kX11_mark_55, qK_0, qR_0_0, qK_1, qR_0_1, qK_13, qR_0_2, qK_25, qR_0_3, qK_40, qR_0_4, qK_41, qR_0_5, qK_45, qR_0_6, qK_46, qR_0_7, qK_50, qR_0_8, qK_53, qR_0_9, qK_66, qR_0_10, qK_74, qR_0_11, qK_80, qR_0_12, qK_82, qR_0_14, qK_83, qR_0_15, qK_84, qK_83, qR_83_0, qK_85, qR_83_1, qK_103, qR_83_2, qK_121, qK_84, qR_84_0, qK_97, qR_84_1, qK_115, qR_84_2, qK_133, e0]
    simp (disch := omega) only [nI_leI, nI_ltI, nI_eq, nI_cl, qin_eq, nI_add, nI_mul, qb_z, qb_t, qb_f, nI_ne0', Nat.reduceAdd, Bool.false_eq_true, if_false, if_true, true_and, and_true, Nat.reduceEqDiff, not_true_eq_false, not_false_eq_true, false_implies, true_implies, ite_true, ite_false]
    rw [q2]
    simp only [qW_nop, qW_iconst, qW_aloadn, qW_astoren, qW_iadd, qW_dup, qW_iflt, qW_iclt, qW_ifnull, qW_ifnonnull, qW_getf, qW_aald, qW_cv2_0, qW_cv2_2, qW_iret0, qW_putf0, Nat.reduceAdd, Nat.reduceMul, Nat.reduceBEq, Nat.reduceEqDiff, Nat.reduceLT, Nat.reduceLeDiff, Nat.zero_le, nI_add, nI_mul, nI_cl, qin_eq, qofI, qlg_0, qlg_s, qls_i0, qls_r0, qls_l0, qls_1, qls_2, qkl_i, qkl_r, qkl_l, qkl_n, qIsI_i, qIsL_l, qIsR_r, qint_i, qil_i, qil_r, qil_l, qf4_0, qf4_1, qf4_2, qf4_3, qf2_0, qf2_1, qcs_n, qcs_i, qcs_r, qcs_l, qst_n, qst_c, qJ_0, qJ_st, qJ_go, qfl_I, qfl_Z, qfl_L, qfl_R, qrI_i, qrL_l, qrV_v, qRcv_0, qRcv_s, eq_self, true_and, and_true, true_or, or_true, false_and, and_false, false_or, or_false, ite_true, if_true, if_false, Bool.true_or, Bool.false_or, Bool.or_false, beq_self_eq_true, Bool.false_eq_true, bX11_mark_0, bX11_mark_15, bX11_mark_21, bX11_mark_49, bX11_mark_55, kX11_mark_0, kX11_mark_15, kX11_mark_21, kX11_mark_49, kX11_mark_55, qK_0, qR_0_0, qK_1, qR_0_1, qK_13, qR_0_2, qK_25, qR_0_3, qK_40, qR_0_4, qK_41, qR_0_5, qK_45, qR_0_6, qK_46, qR_0_7, qK_50, qR_0_8, qK_53, qR_0_9, qK_66, qR_0_10, qK_74, qR_0_11, qK_80, qR_0_12, qK_82, qR_0_14, qK_83, qR_0_15, qK_84, qK_83, qR_83_0, qK_85, qR_83_1, qK_103, qR_83_2, qK_121, qK_84, qR_84_0, qK_97, qR_84_1, qK_115, qR_84_2, qK_133]
    exact key m h rfl
  · have eY : yMark A = yNo A 4 := by
      unfold yMark
      rw [if_pos (by omega)]
    rw [eY]
    exact g_no hA hW zCls.rf (by decide) rfl
set_option maxRecDepth 20000 in
theorem X_undo {σ : qSg} {A : zA} (hA : zXA σ A) (hW : zAW A) : qCI 2 207 [qr 0] σ (zXCall σ (yUndo A)) := by
  obtain ⟨w1, w2, w3, w4⟩ := id hW
  obtain ⟨k1, k2, k3, k4, k5, k6, k7, k8, k9, k10⟩ := id hA
  have e0 := k2.1
  have key : ∀ i, i < 3 → (aM A).1 = i + 1 → qV 207 2 (.inl (zXCall σ (yUndo A))) 62 [some (qr 0), some (qr (85 + 18 * i)), some (qr (97 + 18 * i))] [] σ := by
    intro i hi ei
    have eY : yUndo A = yOk (sM (sK A ((aM A).2 (i + 1))) (i, (aM A).2)) (nI i) := by
      unfold yUndo
      rw [ei, if_neg (by omega), Nat.add_sub_cancel]
    rw [eY]
    rw [ei] at e0 w3
    have hcb : zCb (85 + 18 * i) := by unfold zCb; omega
    have hwb : zWb (97 + 18 * i) := by unfold zWb; omega
    have wk := w3 (i + 1) (by omega) (Nat.le_refl _)
    have kk := k2.2 (i + 1) (by omega) (by omega)
    rw [show 67 + 18 * (i + 1) = 85 + 18 * i by omega, show 79 + 18 * (i + 1) = 97 + 18 * i by omega] at kk
    obtain ⟨W, n, st, b, u1, u2, u3, u4⟩ := kk.2.2.un wk.w
    refine qV.go 30 [9999] ok_207 ?_
    simp only [qW_nop, qW_iconst, qW_bipush, qW_aloadn, qW_astoren, qW_isub, qW_dup, qW_iclt, qW_icle, qW_ifnull, qW_ifnonnull, qW_getf, qW_aald, qW_cv2_0, qW_cv2_2, qW_iret0, qW_putf0, Nat.reduceAdd, Nat.reduceMul, Nat.reduceBEq, Nat.reduceEqDiff, Nat.reduceLT, Nat.reduceLeDiff, Nat.zero_le, nI_add, nI_mul, nI_cl, qin_eq, qofI, qlg_0, qlg_s, qls_i0, qls_r0, qls_l0, qls_1, qls_2, qkl_i, qkl_r, qkl_l, qkl_n, qIsI_i, qIsL_l, qIsR_r, qint_i, qil_i, qil_r, qil_l, qf4_0, qf4_1, qf4_2, qf4_3, qf2_0, qf2_1, qcs_n, qcs_i, qcs_r, qcs_l, qst_n, qst_c, qJ_0, qJ_st, qJ_go, qfl_I, qfl_Z, qfl_L, qfl_R, qrI_i, qrL_l, qrV_v, qRcv_0, qRcv_s, eq_self, true_and, and_true, true_or, or_true, false_and, and_false, false_or, or_false, ite_true, if_true, if_false, Bool.true_or, Bool.false_or, Bool.or_false, beq_self_eq_true, Bool.false_eq_true, bX11_undo_0, bX11_undo_16, bX11_undo_23, bX11_undo_55, bX11_undo_62, kX11_undo_0, kX11_undo_16, kX11_undo_23, kX11_undo_55, kX11_undo_62, qK_0, qR_0_0, qK_1, qR_0_1, qK_13, qR_0_2, qK_25, qR_0_3, qK_40, qR_0_4, qK_41, qR_0_5, qK_45, qR_0_6, qK_46, qR_0_7, qK_50, qR_0_8, qK_53, qR_0_9, qK_66, qR_0_10, qK_74, qR_0_11, qK_80, qR_0_12, qK_82, qR_0_14, qK_83, qR_0_15, qK_84, qK_1, qR_1_6, qK_2, qR_1_7, qK_3, qR_1_8, qK_4, qR_1_9, qK_5, qR_1_10, qK_6, qR_1_11, qK_7, qR_1_12, qK_8, qR_1_13, qK_9, qR_1_14, qK_10, qR_1_15, qK_11, qR_1_16, qK_12, qK_74, qR_74_3, qK_75, qR_74_4, qK_76, qR_74_5, qK_77, qR_74_6, qK_78, qR_74_7, qK_79]
    refine qBV.of (x_copy zCb_n hcb (by omega) kk.1 wk.1) (by decide) (fun σ1 g1 => ?_)
    obtain ⟨X1, n1, f1⟩ := g1
    have a1 : ∀ a j, ¬ (1 ≤ a ∧ a ≤ 12) → σ1.1 a j = σ.1 a j := fun a j hn => f1.1 a j (by unfold zXf; omega)
    refine qBV.of (x_copyW (Or.inr (Or.inl rfl)) hwb (by omega) (u1.fr fun a j h1 h2 => a1 a j (by omega)) u2 (b := b) (by rw [a1 _ _ (by omega)]; exact u3)) (by decide) (fun σ2 g2 => ?_)
    obtain ⟨W2, b2, f2⟩ := g2
    have a2 : ∀ a j, ¬ (1 ≤ a ∧ a ≤ 12) → ¬ (74 ≤ a ∧ a ≤ 79) → σ2.1 a j = σ.1 a j := fun a j hn h2 => by rw [f2.1 a j (by unfold zWf; omega), a1 a j (by omega)]
    have l2 : ∀ a j, a ≠ 2 → σ2.2 a j = σ.2 a j := fun a j hn => by rw [f2.2, f1.2 a j (by omega)]
    have K2 : zXK σ2 1 74 ((aM A).2 (i + 1)) := zXK.cp (Or.inr (Or.inl rfl)) zCb_n (by omega) wk X1 n1 kk.2.1 f2 W2 b2 u4
    have e1 : σ2.1 0 16 = nI (i + 1) := by rw [a2 _ _ (by omega) (by omega)]; exact e0
    rw [e1, nI_sub (by omega), Nat.add_sub_cancel]
    have e3 : (qwi σ2 0 16 (nI i)).1 0 16 = nI i := by rw [qwi_1, if_pos ⟨rfl, rfl⟩]
    rw [e3]
    have a3 : ∀ a j, ¬ (1 ≤ a ∧ a ≤ 12) → ¬ (74 ≤ a ∧ a ≤ 79) → ¬ (a = 0 ∧ j = 16) → (qwi σ2 0 16 (nI i)).1 a j = σ.1 a j := fun a j h1 h3 h2 => by rw [qwi_1, if_neg h2, a2 a j h1 h3]
    have l3 : ∀ a j, a ≠ 2 → (qwi σ2 0 16 (nI i)).2 a j = σ.2 a j := fun a j hn => by rw [qwi_2, l2 a j hn]
    have K3 : zXK (qwi σ2 0 16 (nI i)) 1 74 ((aM A).2 (i + 1)) := K2.fr (fun a j h => by rw [qwi_1, if_neg (by omega)]) (fun j => by rw [qwi_2])
    have fr : zCls σ (qwi σ2 0 16 (nI i)) := ⟨fun a j hn => a3 a j (by omega) (by omega) (by omega), fun a j hn => l3 a j (by omega)⟩
    generalize qwi σ2 0 16 (nI i) = σ3 at e3 a3 l3 K3 fr ⊢
    refine g_ok (A1 := sM (sK A ((aM A).2 (i + 1))) (i, (aM A).2)) ?_ ?_ fr (by decide) rfl
    · refine ⟨K3, ⟨e3, fun i' i1 i2 => ?_⟩, k3.fr (fun j => a3 _ _ (by omega) (by omega) (by omega)) (fun j => a3 _ _ (by omega) (by omega) (by omega)) (fun j => l3 _ _ (by omega)), k4.fr (a3 _ _ (by omega) (by omega) (by omega)) (fun j => a3 _ _ (by omega) (by omega) (by omega)), k5.fr (fun j => l3 _ _ (by omega)), ⟨?_, ?_⟩, ?_, ⟨?_, ?_⟩, k9.fr (a3 _ _ (by omega) (by omega) (by omega)) (fun j => a3 _ _ (by omega) (by omega) (by omega)), fun j hj => ?_⟩
      · have i2 : i' ≤ i := i2
        exact (k2.2 i' i1 (by omega)).fr (fun a j ha => a3 _ _ (by omega) (by omega) (by omega)) (fun j => l3 _ _ (by omega))
      · rw [l3 _ _ (by omega)]; exact k6.1
      · rw [l3 _ _ (by omega)]; exact k6.2
      · rw [a3 _ _ (by omega) (by omega) (by omega)]; exact k7
      · rw [a3 _ _ (by omega) (by omega) (by omega)]; exact k8.1
      · rw [a3 _ _ (by omega) (by omega) (by omega)]; exact k8.2
      · rw [a3 _ _ (by omega) (by omega) (by omega)]; exact k10 j hj
    · refine ⟨wk, (by show i ≤ 3; omega), fun i' i1 i2 => ?_, w4⟩
      have i2 : i' ≤ i := i2
      exact w3 i' i1 (by omega)
  refine qCI.of [some (qr 0), none, none] ok_207 (Nat.le_of_ble_eq_true rfl) rfl ?_
  refine qV.go 30 [62] ok_207 ?_
  simp only [qW_nop, qW_iconst, qW_bipush, qW_aloadn, qW_astoren, qW_isub, qW_dup, qW_iclt, qW_icle, qW_ifnull, qW_ifnonnull, qW_getf, qW_aald, qW_cv2_0, qW_cv2_2, qW_iret0, qW_putf0, Nat.reduceAdd, Nat.reduceMul, Nat.reduceBEq, Nat.reduceEqDiff, Nat.reduceLT, Nat.reduceLeDiff, Nat.zero_le, nI_add, nI_mul, nI_cl, qin_eq, qofI, qlg_0, qlg_s, qls_i0, qls_r0, qls_l0, qls_1, qls_2, qkl_i, qkl_r, qkl_l, qkl_n, qIsI_i, qIsL_l, qIsR_r, qint_i, qil_i, qil_r, qil_l, qf4_0, qf4_1, qf4_2, qf4_3, qf2_0, qf2_1, qcs_n, qcs_i, qcs_r, qcs_l, qst_n, qst_c, qJ_0, qJ_st, qJ_go, qfl_I, qfl_Z, qfl_L, qfl_R, qrI_i, qrL_l, qrV_v, qRcv_0, qRcv_s, eq_self, true_and, and_true, true_or, or_true, false_and, and_false, false_or, or_false, ite_true, if_true, if_false, Bool.true_or, Bool.false_or, Bool.or_false, beq_self_eq_true, Bool.false_eq_true, bX11_undo_0, bX11_undo_16, bX11_undo_23, bX11_undo_55, bX11_undo_62, kX11_undo_0, kX11_undo_16, kX11_undo_23, kX11_undo_55, kX11_undo_62, qK_0, qR_0_0, qK_1, qR_0_1, qK_13, qR_0_2, qK_25, qR_0_3, qK_40, qR_0_4, qK_41, qR_0_5, qK_45, qR_0_6, qK_46, qR_0_7, qK_50, qR_0_8, qK_53, qR_0_9, qK_66, qR_0_10, qK_74, qR_0_11, qK_80, qR_0_12, qK_82, qR_0_14, qK_83, qR_0_15, qK_84, qK_83, qR_83_0, qK_85, qR_83_1, qK_103, qR_83_2, qK_121, qK_84, qR_84_0, qK_97, qR_84_1, qK_115, qR_84_2, qK_133]
  rw [e0]
  generalize hmm : (aM A).1 = m at e0 key
  have m3 : m ≤ 3 := by omega
  simp (disch := omega) only [nI_leI, nI_ltI, nI_eq, nI_cl, qin_eq, nI_add, nI_mul, qb_z, qb_t, qb_f, nI_ne0', Nat.reduceAdd, Bool.false_eq_true, if_false, if_true, true_and, and_true, Nat.reduceEqDiff, not_true_eq_false, not_false_eq_true, false_implies, true_implies, ite_true, ite_false]
  refine ⟨fun h => ?_, fun h => And.symm ⟨fun h2 => absurd m3 h2, fun _ => ?_⟩⟩
  · have eY : yUndo A = yNo A 6 := by
      unfold yUndo
      rw [if_pos (by omega)]
    rw [eY]
    exact g_no hA hW zCls.rf (by decide) rfl
  · obtain ⟨i, rfl⟩ : ∃ i, m = i + 1 := ⟨m - 1, by omega⟩
    have q1 : qRf 83 i = some (85 + 18 * i) := by
      rcases (show i = 0 ∨ i = 1 ∨ i = 2 by omega) with rfl | rfl | rfl <;> rfl
    have q2 : qRf 84 i = some (97 + 18 * i) := by
      rcases (show i = 0 ∨ i = 1 ∨ i = 2 by omega) with rfl | rfl | rfl <;> rfl
    rw [nI_sub (by omega), Nat.add_sub_cancel]
    simp (disch := omega) only [nI_leI, nI_ltI, nI_eq, nI_cl, qin_eq, nI_add, nI_mul, qb_z, qb_t, qb_f, nI_ne0', Nat.reduceAdd, Bool.false_eq_true, if_false, if_true, true_and, and_true, Nat.reduceEqDiff, not_true_eq_false, not_false_eq_true, false_implies, true_implies, ite_true, ite_false]
    rw [q1]
    simp only [qW_nop, qW_iconst, qW_bipush, qW_aloadn, qW_astoren, qW_isub, qW_dup, qW_iclt, qW_icle, qW_ifnull, qW_ifnonnull, qW_getf, qW_aald, qW_cv2_0, qW_cv2_2, qW_iret0, qW_putf0, Nat.reduceAdd, Nat.reduceMul, Nat.reduceBEq, Nat.reduceEqDiff, Nat.reduceLT, Nat.reduceLeDiff, Nat.zero_le, nI_add, nI_mul, nI_cl, qin_eq, qofI, qlg_0, qlg_s, qls_i0, qls_r0, qls_l0, qls_1, qls_2, qkl_i, qkl_r, qkl_l, qkl_n, qIsI_i, qIsL_l, qIsR_r, qint_i, qil_i, qil_r, qil_l, qf4_0, qf4_1, qf4_2, qf4_3, qf2_0, qf2_1, qcs_n, qcs_i, qcs_r, qcs_l, qst_n, qst_c, qJ_0, qJ_st, qJ_go, qfl_I, qfl_Z, qfl_L, qfl_R, qrI_i, qrL_l, qrV_v, qRcv_0, qRcv_s, eq_self, true_and, and_true, true_or, or_true, false_and, and_false, false_or, or_false, ite_true, if_true, if_false, Bool.true_or, Bool.false_or, Bool.or_false, beq_self_eq_true, Bool.false_eq_true, bX11_undo_0, bX11_undo_16, bX11_undo_23, bX11_undo_55, bX11_undo_62, kX11_undo_0, kX11_undo_16, kX11_undo_23, kX11_undo_55, kX11_undo_62, qK_0, qR_0_0, qK_1, qR_0_1, qK_13, qR_0_2, qK_25, qR_0_3, qK_40, qR_0_4, qK_41, qR_0_5, qK_45, qR_0_6, qK_46, qR_0_7, qK_50, qR_0_8, qK_53, qR_0_9, qK_66, qR_0_10, qK_74, qR_0_11, qK_80, qR_0_12, qK_82, qR_0_14, qK_83, qR_0_15, qK_84, qK_83, qR_83_0, qK_85, qR_83_1, qK_103, qR_83_2, qK_121, qK_84, qR_84_0, qK_97, qR_84_1, qK_115, qR_84_2, qK_133, e0]
    rw [nI_sub (by omega), Nat.add_sub_cancel]
    simp (disch := omega) only [nI_leI, nI_ltI, nI_eq, nI_cl, qin_eq, nI_add, nI_mul, qb_z, qb_t, qb_f, nI_ne0', Nat.reduceAdd, Bool.false_eq_true, if_false, if_true, true_and, and_true, Nat.reduceEqDiff, not_true_eq_false, not_false_eq_true, false_implies, true_implies, ite_true, ite_false]
    rw [q2]
    simp only [qW_nop, qW_iconst, qW_bipush, qW_aloadn, qW_astoren, qW_isub, qW_dup, qW_iclt, qW_icle, qW_ifnull, qW_ifnonnull, qW_getf, qW_aald, qW_cv2_0, qW_cv2_2, qW_iret0, qW_putf0, Nat.reduceAdd, Nat.reduceMul, Nat.reduceBEq, Nat.reduceEqDiff, Nat.reduceLT, Nat.reduceLeDiff, Nat.zero_le, nI_add, nI_mul, nI_cl, qin_eq, qofI, qlg_0, qlg_s, qls_i0, qls_r0, qls_l0, qls_1, qls_2, qkl_i, qkl_r, qkl_l, qkl_n, qIsI_i, qIsL_l, qIsR_r, qint_i, qil_i, qil_r, qil_l, qf4_0, qf4_1, qf4_2, qf4_3, qf2_0, qf2_1, qcs_n, qcs_i, qcs_r, qcs_l, qst_n, qst_c, qJ_0, qJ_st, qJ_go, qfl_I, qfl_Z, qfl_L, qfl_R, qrI_i, qrL_l, qrV_v, qRcv_0, qRcv_s, eq_self, true_and, and_true, true_or, or_true, false_and, and_false, false_or, or_false, ite_true, if_true, if_false, Bool.true_or, Bool.false_or, Bool.or_false, beq_self_eq_true, Bool.false_eq_true, bX11_undo_0, bX11_undo_16, bX11_undo_23, bX11_undo_55, bX11_undo_62, kX11_undo_0, kX11_undo_16, kX11_undo_23, kX11_undo_55, kX11_undo_62, qK_0, qR_0_0, qK_1, qR_0_1, qK_13, qR_0_2, qK_25, qR_0_3, qK_40, qR_0_4, qK_41, qR_0_5, qK_45, qR_0_6, qK_46, qR_0_7, qK_50, qR_0_8, qK_53, qR_0_9, qK_66, qR_0_10, qK_74, qR_0_11, qK_80, qR_0_12, qK_82, qR_0_14, qK_83, qR_0_15, qK_84, qK_83, qR_83_0, qK_85, qR_83_1, qK_103, qR_83_2, qK_121, qK_84, qR_84_0, qK_97, qR_84_1, qK_115, qR_84_2, qK_133]
    exact key i (by omega) rfl
