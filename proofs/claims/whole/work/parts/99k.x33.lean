/-! the class: a week's line, its numbers -/
def zXk (B : Nat → Nat) (N : Nat → List Nat) (n : Nat) (C : zC) (s : zQ) (k p : Nat) (σ : qSg) (v : Int32) (σ' : qSg) : Prop := zXo (zpRow B N (C 0 0) (C 0 2 * C 0 3) k p) v σ' (fun r => zXd σ' B n r.2 ∧ zXj σ' s k (zwa r.1) (zwb r.1) (zwc r.1)) ∧ zG zPwr zRxt σ σ'
theorem zw_6 {k a b c : Nat} (hk : k < 1500) : zwa (zr6 k a b c 0) = a ∧ zwb (zr6 k a b c 0) = b ∧ zwc (zr6 k a b c 0) = c := by
  obtain ⟨h0, h1, h2, h3, h4, h5⟩ := zr6_r (boys := 0) (cells := 0) (k := k) (a := a) (b := b) (c := c) (e := 0)
  unfold zwa zwb zwc
  rw [h0, h1, h2, h3, if_neg (by omega), if_neg (by omega), if_neg (by omega), if_neg (by omega)]
  exact ⟨rfl, rfl, rfl⟩
/-- the numbers are filled in -/
theorem zXk.fin {B : Nat → Nat} {N : Nat → List Nat} {n : Nat} {C : zC} {s : zQ} {k p q x y z : Nat} {r : Nat → Nat} {σ σ1 : qSg} (F : zG zPwr zRxt σ σ1) (d : zXd σ1 B n q) (J : zXj σ1 s k 0 0 0) (eR : zpRow B N (C 0 0) (C 0 2 * C 0 3) k p = .inr (r, q)) (hx : x = zwa r) (hy : y = zwb r) (hz : z = zwc r) :
    zXk B N n C s k p σ (nI 1) (qwi (qwi (qwi σ1 (67 + 2) s.2.1 (nI x)) (67 + 3) s.2.1 (nI y)) (67 + 4) s.2.1 (nI z)) := by
  subst hx hy hz
  have p1 : ∀ i, i ≤ 5 → zPwr (67 + i) s.2.1 := fun i hi => Or.inr (Or.inr ⟨by omega, by omega⟩)
  exact ⟨zXo_r (a := (r, q)) eR rfl ⟨((d.c (by decide)).c (by decide)).c (by decide), J.fill⟩, ((F.tr (zG.wi (p1 2 (by decide)))).tr (zG.wi (p1 3 (by decide)))).tr (zG.wi (p1 4 (by decide)))⟩
set_option maxRecDepth 20000 in
theorem x_takeOne {σ : qSg} {B : Nat → Nat} {N : Nat → List Nat} {n p : Nat} {C : zC} {s : zQ} {k lo hi : Nat} (hB : zBW B n) (hp : p ≤ n) (d : zXd σ B n p) (J : zXj σ s k 0 0 0) (hm : s.2.1 < 60) (hk : k < 1500) (h1 : lo < 100000) (h2 : hi < 100000)
    (eR : zpRow B N (C 0 0) (C 0 2 * C 0 3) k p = zbd (zpN B lo hi p) fun a => .inr (zr6 k a.1 0 0 0, a.2)) : qCI 5 132 [qr 66, qi (nI lo), qi (nI hi)] σ (zXk B N n C s k p σ) := by
  refine qCI.of [some (qr 66), some (qi (nI lo)), some (qi (nI hi))] ok_132 (Nat.le_of_ble_eq_true rfl) rfl ?_
  refine qV.go 30 [9999] ok_132 ?_
  simp only [qW_nop, qW_iconst, qW_iloadn, qW_aloadn, qW_ifne, qW_getf, qW_cv3_0, qW_cv4_2, qW_iret1, Nat.reduceAdd, Nat.reduceMul, Nat.reduceBEq, Nat.reduceEqDiff, Nat.reduceLT, Nat.reduceLeDiff, Nat.zero_le, nI_add, nI_mul, nI_cl, qin_eq, qofI, qlg_0, qlg_s, qls_i0, qls_r0, qls_l0, qls_1, qls_2, qkl_i, qkl_r, qkl_l, qkl_n, qIsI_i, qIsL_l, qIsR_r, qint_i, qil_i, qil_r, qil_l, qf4_0, qf4_1, qf4_2, qf4_3, qf2_0, qf2_1, qcs_n, qcs_i, qcs_r, qcs_l, qst_n, qst_c, qJ_0, qJ_st, qJ_go, qfl_I, qfl_Z, qfl_L, qfl_R, qrI_i, qrL_l, qrV_v, qRcv_0, qRcv_s, eq_self, true_and, and_true, true_or, or_true, false_and, and_false, false_or, or_false, ite_true, if_true, if_false, Bool.true_or, Bool.false_or, Bool.or_false, beq_self_eq_true, Bool.false_eq_true, bX10_takeOne_0, bX10_takeOne_14, kX10_takeOne_0, kX10_takeOne_14, qK_66, qR_66_0, qK_50, qR_66_1, qK_67, qR_66_2, qK_73, qK_67, qR_67_3, qK_68, qR_67_4, qK_69, qR_67_5, qK_70, qR_67_6, qK_71, qR_67_7, qK_72, qK_50, qR_50_0, qK_51, qR_50_13, qK_52]
  refine qBI.of (x_takeNum hB hp d (lo := lo) (hi := hi) h1 h2) (by decide) (fun v σ1 g1 => ?_)
  obtain ⟨g1, f1⟩ := g1
  have F1 := zPxt_w f1
  rcases zXo_c g1 with ⟨e, he, rfl, hf⟩ | ⟨a, ha, rfl, d1, t1⟩
  · simp (disch := omega) only [nI_leI, nI_ltI, nI_eq, nI_cl, qin_eq, nI_add, nI_mul, qb_z, qb_t, qb_f, nI_ne0', Nat.reduceAdd, Bool.false_eq_true, if_false, if_true, true_and, and_true, Nat.reduceEqDiff, not_true_eq_false, not_false_eq_true, false_implies, true_implies, ite_true, ite_false]
    exact ⟨zXo_l (by rw [eR, he]; rfl) rfl hf, F1⟩
  · simp (disch := omega) only [nI_leI, nI_ltI, nI_eq, nI_cl, qin_eq, nI_add, nI_mul, qb_z, qb_t, qb_f, nI_ne0', Nat.reduceAdd, Bool.false_eq_true, if_false, if_true, true_and, and_true, Nat.reduceEqDiff, not_true_eq_false, not_false_eq_true, false_implies, true_implies, ite_true, ite_false]
    rw [t1]
    have J1 := J.t f1
    refine qBV.of (x_fill (Or.inl rfl) J1.2.1 hm _ _ _) (by decide) (fun σ2 g2 => ?_)
    subst g2
    obtain ⟨w1, w2, w3⟩ := zw_6 (a := a.1) (b := 0) (c := 0) hk
    exact zXk.fin F1 d1 J1 (r := zr6 k a.1 0 0 0) (by rw [eR, ha]; rfl) w1.symm w2.symm w3.symm
set_option maxRecDepth 20000 in
theorem x_takePair {σ : qSg} {B : Nat → Nat} {N : Nat → List Nat} {n p : Nat} {C : zC} {s : zQ} (hB : zBW B n) (hp : p ≤ n) (d : zXd σ B n p) (J : zXj σ s 3 0 0 0) (hm : s.2.1 < 60) (hC : zX σ 1 C) (hw : zW C) (hn : zXnm σ 1 (C 0 0) N) (hN : zNW (C 0 0) N) : qCI 5 133 [qr 66, qr 1] σ (zXk B N n C s 3 p σ) := by
  have wb := hw.1
  have eR : zpRow B N (C 0 0) (C 0 2 * C 0 3) 3 p = zbd (zpB B N (C 0 0) p) fun a => zbd (zpB B N (C 0 0) a.2) fun b => zbd (zpN B 0 99 b.2) fun g => .inr (zr6 3 a.1 b.1 g.1 0, g.2) := by
    unfold zpRow
    rw [if_neg (by decide), if_pos rfl]
  refine qCI.of [some (qr 66), some (qr 1), none, none] ok_133 (Nat.le_of_ble_eq_true rfl) rfl ?_
  refine qV.go 30 [9999] ok_133 ?_
  simp only [qW_nop, qW_iconst, qW_iconstm, qW_bipush, qW_iloadn, qW_aloadn, qW_istoren, qW_ifne, qW_icne, qW_getf, qW_cv1_2, qW_cv2_0, qW_cv3_0, qW_cv4_2, qW_iret1, Nat.reduceAdd, Nat.reduceMul, Nat.reduceBEq, Nat.reduceEqDiff, Nat.reduceLT, Nat.reduceLeDiff, Nat.zero_le, nI_add, nI_mul, nI_cl, qin_eq, qofI, qlg_0, qlg_s, qls_i0, qls_r0, qls_l0, qls_1, qls_2, qkl_i, qkl_r, qkl_l, qkl_n, qIsI_i, qIsL_l, qIsR_r, qint_i, qil_i, qil_r, qil_l, qf4_0, qf4_1, qf4_2, qf4_3, qf2_0, qf2_1, qcs_n, qcs_i, qcs_r, qcs_l, qst_n, qst_c, qJ_0, qJ_st, qJ_go, qfl_I, qfl_Z, qfl_L, qfl_R, qrI_i, qrL_l, qrV_v, qRcv_0, qRcv_s, eq_self, true_and, and_true, true_or, or_true, false_and, and_false, false_or, or_false, ite_true, if_true, if_false, Bool.true_or, Bool.false_or, Bool.or_false, beq_self_eq_true, Bool.false_eq_true, bX10_takePair_0, bX10_takePair_16, bX10_takePair_39, bX10_takePair_61, kX10_takePair_0, kX10_takePair_16, kX10_takePair_39, kX10_takePair_61, qK_66, qR_66_0, qK_50, qR_66_1, qK_67, qR_66_2, qK_73, qK_67, qR_67_3, qK_68, qR_67_4, qK_69, qR_67_5, qK_70, qR_67_6, qK_71, qR_67_7, qK_72, qK_50, qR_50_0, qK_51, qR_50_13, qK_52, qK_1, qR_1_6, qK_2, qR_1_7, qK_3, qR_1_8, qK_4, qR_1_9, qK_5, qR_1_10, qK_6, qR_1_11, qK_7, qR_1_12, qK_8, qR_1_13, qK_9, qR_1_14, qK_10, qR_1_15, qK_11, qR_1_16, qK_12]
  refine qBI.of (x_boyHere zCb_n hC.1 hw hB hp d hn hN) (by decide) (fun v σ1 g1 => ?_)
  rcases zBh_c g1 with ⟨e, he, rfl, hf, f1⟩ | ⟨a, ha, rfl, rfl, a2, am, an⟩
  · refine ⟨fun hh => absurd rfl hh, fun _ => ?_⟩
    exact ⟨zXo_l (by rw [eR, he]; rfl) rfl hf, zPxt_w f1⟩
  · refine ⟨fun _ => ?_, fun hh => absurd hh (nI_nem (by omega))⟩
    have s1 := zpB_inr hB hp ha
    refine qBV.of (x_next hB hp d) (by decide) (fun σ2 g2 => ?_)
    obtain ⟨d2, f2⟩ := g2
    have f2 := zPxs_t f2
    have F2 := zPxt_w f2
    rw [← a2] at d2
    refine qBI.of (x_boyHere zCb_n (hC.t zCb_n f2).1 hw hB s1.2.1 d2 (hn.t zCb_n f2) hN) (by decide) (fun v σ3 g3 => ?_)
    rcases zBh_c g3 with ⟨e, he, rfl, hf, f3⟩ | ⟨b, hb, rfl, rfl, b2, bm, bn⟩
    · refine ⟨fun hh => absurd rfl hh, fun _ => ?_⟩
      exact ⟨zXo_l (by simp only [eR, ha, he, zbd_l, zbd_r]) rfl hf, F2.tr (zPxt_w f3)⟩
    · refine ⟨fun _ => ?_, fun hh => absurd hh (nI_nem (by omega))⟩
      have s2 := zpB_inr hB s1.2.1 hb
      refine qBV.of (x_next hB s1.2.1 d2) (by decide) (fun σ4 g4 => ?_)
      obtain ⟨d4, f4⟩ := g4
      have f4 := zPxs_t f4
      have F4 := F2.tr (zPxt_w f4)
      rw [← b2] at d4
      refine qBI.of (x_takeNum hB s2.2.1 d4 (lo := 0) (hi := 99) (by decide) (by decide)) (by decide) (fun v σ5 g5 => ?_)
      obtain ⟨g5, f5⟩ := g5
      have F5 := F4.tr (zPxt_w f5)
      rcases zXo_c g5 with ⟨e, he, rfl, hf⟩ | ⟨c, hc, rfl, d5, t5⟩
      · simp (disch := omega) only [nI_leI, nI_ltI, nI_eq, nI_cl, qin_eq, nI_add, nI_mul, qb_z, qb_t, qb_f, nI_ne0', Nat.reduceAdd, Bool.false_eq_true, if_false, if_true, true_and, and_true, Nat.reduceEqDiff, not_true_eq_false, not_false_eq_true, false_implies, true_implies, ite_true, ite_false]
        exact ⟨zXo_l (by simp only [eR, ha, hb, he, zbd_l, zbd_r]) rfl hf, F5⟩
      · simp (disch := omega) only [nI_leI, nI_ltI, nI_eq, nI_cl, qin_eq, nI_add, nI_mul, qb_z, qb_t, qb_f, nI_ne0', Nat.reduceAdd, Bool.false_eq_true, if_false, if_true, true_and, and_true, Nat.reduceEqDiff, not_true_eq_false, not_false_eq_true, false_implies, true_implies, ite_true, ite_false]
        rw [t5]
        have J5 := ((J.t f2).t f4).t f5
        refine qBV.of (x_fill (Or.inl rfl) J5.2.1 hm _ _ _) (by decide) (fun σ6 g6 => ?_)
        subst g6
        obtain ⟨w1, w2, w3⟩ := zw_6 (k := 3) (a := a.1) (b := b.1) (c := c.1) (by decide)
        exact zXk.fin F5 d5 J5 (r := zr6 3 a.1 b.1 c.1 0) (by simp only [eR, ha, hb, hc, zbd_r]) w1.symm w2.symm w3.symm
set_option maxRecDepth 20000 in
theorem x_takeBoyW {σ : qSg} {B : Nat → Nat} {N : Nat → List Nat} {n p : Nat} {C : zC} {s : zQ} (hB : zBW B n) (hp : p ≤ n) (d : zXd σ B n p) (J : zXj σ s 12 0 0 0) (hm : s.2.1 < 60) (hC : zX σ 1 C) (hw : zW C) (hn : zXnm σ 1 (C 0 0) N) (hN : zNW (C 0 0) N) : qCI 4 134 [qr 66, qr 1] σ (zXk B N n C s 12 p σ) := by
  have wb := hw.1
  have eR : zpRow B N (C 0 0) (C 0 2 * C 0 3) 12 p = zbd (zpB B N (C 0 0) p) fun a => .inr (zr6 12 a.1 0 0 0, a.2) := by
    unfold zpRow
    rw [if_neg (by decide), if_neg (by decide), if_pos rfl]
  refine qCI.of [some (qr 66), some (qr 1), none] ok_134 (Nat.le_of_ble_eq_true rfl) rfl ?_
  refine qV.go 30 [9999] ok_134 ?_
  simp only [qW_nop, qW_iconst, qW_iconstm, qW_iloadn, qW_aloadn, qW_istoren, qW_icne, qW_getf, qW_cv1_2, qW_cv2_0, qW_cv4_2, qW_iret1, Nat.reduceAdd, Nat.reduceMul, Nat.reduceBEq, Nat.reduceEqDiff, Nat.reduceLT, Nat.reduceLeDiff, Nat.zero_le, nI_add, nI_mul, nI_cl, qin_eq, qofI, qlg_0, qlg_s, qls_i0, qls_r0, qls_l0, qls_1, qls_2, qkl_i, qkl_r, qkl_l, qkl_n, qIsI_i, qIsL_l, qIsR_r, qint_i, qil_i, qil_r, qil_l, qf4_0, qf4_1, qf4_2, qf4_3, qf2_0, qf2_1, qcs_n, qcs_i, qcs_r, qcs_l, qst_n, qst_c, qJ_0, qJ_st, qJ_go, qfl_I, qfl_Z, qfl_L, qfl_R, qrI_i, qrL_l, qrV_v, qRcv_0, qRcv_s, eq_self, true_and, and_true, true_or, or_true, false_and, and_false, false_or, or_false, ite_true, if_true, if_false, Bool.true_or, Bool.false_or, Bool.or_false, beq_self_eq_true, Bool.false_eq_true, bX10_takeBoy_0, bX10_takeBoy_16, kX10_takeBoy_0, kX10_takeBoy_16, qK_66, qR_66_0, qK_50, qR_66_1, qK_67, qR_66_2, qK_73, qK_67, qR_67_3, qK_68, qR_67_4, qK_69, qR_67_5, qK_70, qR_67_6, qK_71, qR_67_7, qK_72, qK_50, qR_50_0, qK_51, qR_50_13, qK_52, qK_1, qR_1_6, qK_2, qR_1_7, qK_3, qR_1_8, qK_4, qR_1_9, qK_5, qR_1_10, qK_6, qR_1_11, qK_7, qR_1_12, qK_8, qR_1_13, qK_9, qR_1_14, qK_10, qR_1_15, qK_11, qR_1_16, qK_12]
  refine qBI.of (x_boyHere zCb_n hC.1 hw hB hp d hn hN) (by decide) (fun v σ1 g1 => ?_)
  rcases zBh_c g1 with ⟨e, he, rfl, hf, f1⟩ | ⟨a, ha, rfl, rfl, a2, am, an⟩
  · refine ⟨fun hh => absurd rfl hh, fun _ => ?_⟩
    exact ⟨zXo_l (by rw [eR, he]; rfl) rfl hf, zPxt_w f1⟩
  · refine ⟨fun _ => ?_, fun hh => absurd hh (nI_nem (by omega))⟩
    refine qBV.of (x_next hB hp d) (by decide) (fun σ2 g2 => ?_)
    obtain ⟨d2, f2⟩ := g2
    have f2 := zPxs_t f2
    have F2 := zPxt_w f2
    rw [← a2] at d2
    have J2 := J.t f2
    refine qBV.of (x_fill (Or.inl rfl) J2.2.1 hm _ _ _) (by decide) (fun σ3 g3 => ?_)
    subst g3
    obtain ⟨w1, w2, w3⟩ := zw_6 (k := 12) (a := a.1) (b := 0) (c := 0) (by decide)
    exact zXk.fin F2 d2 J2 (r := zr6 12 a.1 0 0 0) (by rw [eR, ha]; rfl) w1.symm w2.symm w3.symm
set_option maxRecDepth 20000 in
theorem x_takeBoyCell {σ : qSg} {B : Nat → Nat} {N : Nat → List Nat} {n p : Nat} {C : zC} {s : zQ} (hB : zBW B n) (hp : p ≤ n) (d : zXd σ B n p) (J : zXj σ s 13 0 0 0) (hm : s.2.1 < 60) (hC : zX σ 1 C) (hw : zW C) (hn : zXnm σ 1 (C 0 0) N) (hN : zNW (C 0 0) N) : qCI 5 135 [qr 66, qr 1] σ (zXk B N n C s 13 p σ) := by
  have wb := hw.1
  have hc := zSW_cells hw
  have eR : zpRow B N (C 0 0) (C 0 2 * C 0 3) 13 p = zbd (zpB B N (C 0 0) p) fun a => zbd (zpN B 0 (C 0 2 * C 0 3 - 1) a.2) fun b => .inr (zr6 13 a.1 b.1 0 0, b.2) := by
    unfold zpRow
    rw [if_neg (by decide), if_neg (by decide), if_neg (by decide), if_pos rfl]
  refine qCI.of [some (qr 66), some (qr 1), none] ok_135 (Nat.le_of_ble_eq_true rfl) rfl ?_
  refine qV.go 30 [9999] ok_135 ?_
  simp only [qW_nop, qW_iconst, qW_iconstm, qW_iloadn, qW_aloadn, qW_istoren, qW_isub, qW_imul, qW_ifne, qW_icne, qW_getf, qW_cv1_2, qW_cv2_0, qW_cv3_0, qW_cv4_2, qW_iret1, Nat.reduceAdd, Nat.reduceMul, Nat.reduceBEq, Nat.reduceEqDiff, Nat.reduceLT, Nat.reduceLeDiff, Nat.zero_le, nI_add, nI_mul, nI_cl, qin_eq, qofI, qlg_0, qlg_s, qls_i0, qls_r0, qls_l0, qls_1, qls_2, qkl_i, qkl_r, qkl_l, qkl_n, qIsI_i, qIsL_l, qIsR_r, qint_i, qil_i, qil_r, qil_l, qf4_0, qf4_1, qf4_2, qf4_3, qf2_0, qf2_1, qcs_n, qcs_i, qcs_r, qcs_l, qst_n, qst_c, qJ_0, qJ_st, qJ_go, qfl_I, qfl_Z, qfl_L, qfl_R, qrI_i, qrL_l, qrV_v, qRcv_0, qRcv_s, eq_self, true_and, and_true, true_or, or_true, false_and, and_false, false_or, or_false, ite_true, if_true, if_false, Bool.true_or, Bool.false_or, Bool.or_false, beq_self_eq_true, Bool.false_eq_true, bX10_takeBoyAndCell_0, bX10_takeBoyAndCell_16, bX10_takeBoyAndCell_47, kX10_takeBoyAndCell_0, kX10_takeBoyAndCell_16, kX10_takeBoyAndCell_47, qK_66, qR_66_0, qK_50, qR_66_1, qK_67, qR_66_2, qK_73, qK_67, qR_67_3, qK_68, qR_67_4, qK_69, qR_67_5, qK_70, qR_67_6, qK_71, qR_67_7, qK_72, qK_50, qR_50_0, qK_51, qR_50_13, qK_52, qK_1, qR_1_6, qK_2, qR_1_7, qK_3, qR_1_8, qK_4, qR_1_9, qK_5, qR_1_10, qK_6, qR_1_11, qK_7, qR_1_12, qK_8, qR_1_13, qK_9, qR_1_14, qK_10, qR_1_15, qK_11, qR_1_16, qK_12]
  refine qBI.of (x_boyHere zCb_n hC.1 hw hB hp d hn hN) (by decide) (fun v σ1 g1 => ?_)
  rcases zBh_c g1 with ⟨e, he, rfl, hf, f1⟩ | ⟨a, ha, rfl, rfl, a2, am, an⟩
  · refine ⟨fun hh => absurd rfl hh, fun _ => ?_⟩
    exact ⟨zXo_l (by rw [eR, he]; rfl) rfl hf, zPxt_w f1⟩
  · refine ⟨fun _ => ?_, fun hh => absurd hh (nI_nem (by omega))⟩
    have s1 := zpB_inr hB hp ha
    refine qBV.of (x_next hB hp d) (by decide) (fun σ2 g2 => ?_)
    obtain ⟨d2, f2⟩ := g2
    have f2 := zPxs_t f2
    have F2 := zPxt_w f2
    rw [← a2] at d2
    have ew : σ2.1 1 0 = nI (C 0 2) := (hC.t zCb_n f2).1.w
    have eh : σ2.1 1 1 = nI (C 0 3) := (hC.t zCb_n f2).1.h
    rw [ew, eh, nI_mul, nI_sub hc.1]
    refine qBI.of (x_takeNum hB s1.2.1 d2 (lo := 0) (hi := C 0 2 * C 0 3 - 1) (by decide) (by omega)) (by decide) (fun v σ5 g5 => ?_)
    obtain ⟨g5, f5⟩ := g5
    have F5 := F2.tr (zPxt_w f5)
    rcases zXo_c g5 with ⟨e, he, rfl, hf⟩ | ⟨c, hcc, rfl, d5, t5⟩
    · simp (disch := omega) only [nI_leI, nI_ltI, nI_eq, nI_cl, qin_eq, nI_add, nI_mul, qb_z, qb_t, qb_f, nI_ne0', Nat.reduceAdd, Bool.false_eq_true, if_false, if_true, true_and, and_true, Nat.reduceEqDiff, not_true_eq_false, not_false_eq_true, false_implies, true_implies, ite_true, ite_false]
      exact ⟨zXo_l (by simp only [eR, ha, he, zbd_l, zbd_r]) rfl hf, F5⟩
    · simp (disch := omega) only [nI_leI, nI_ltI, nI_eq, nI_cl, qin_eq, nI_add, nI_mul, qb_z, qb_t, qb_f, nI_ne0', Nat.reduceAdd, Bool.false_eq_true, if_false, if_true, true_and, and_true, Nat.reduceEqDiff, not_true_eq_false, not_false_eq_true, false_implies, true_implies, ite_true, ite_false]
      rw [t5]
      have J5 := (J.t f2).t f5
      refine qBV.of (x_fill (Or.inl rfl) J5.2.1 hm _ _ _) (by decide) (fun σ6 g6 => ?_)
      subst g6
      obtain ⟨w1, w2, w3⟩ := zw_6 (k := 13) (a := a.1) (b := c.1) (c := 0) (by decide)
      exact zXk.fin F5 d5 J5 (r := zr6 13 a.1 c.1 0 0) (by simp only [eR, ha, hcc, zbd_r]) w1.symm w2.symm w3.symm
set_option maxRecDepth 20000 in
theorem x_takeTest {σ : qSg} {B : Nat → Nat} {N : Nat → List Nat} {n p : Nat} {C : zC} {s : zQ} (hB : zBW B n) (hp : p ≤ n) (d : zXd σ B n p) (J : zXj σ s 15 0 0 0) (hm : s.2.1 < 60) (hC : zX σ 1 C) (hw : zW C) (hn : zXnm σ 1 (C 0 0) N) (hN : zNW (C 0 0) N) : qCI 5 136 [qr 66, qr 1] σ (zXk B N n C s 15 p σ) := by
  have wb := hw.1
  have ht := tkE_spec hB hp
  have hy := tkY_le B p
  have eR0 : zpRow B N (C 0 0) (C 0 2 * C 0 3) 15 p = zpTest B N (C 0 0) p := by
    unfold zpRow
    rw [if_neg (by decide), if_neg (by decide), if_neg (by decide), if_neg (by decide), if_neg (by decide), if_pos rfl]
  have eT : zpTest B N (C 0 0) p = if tkY B p < 19 ∨ tkY B p = 22 then .inl (zno B p 2) else if tkY B p = 19 then zbd (zpB B N (C 0 0) (tkE B p)) fun a => .inr (zr6 1519 a.1 0 0 0, a.2) else zbd (zpC B (tkE B p)) fun v => zbd (zpN B 0 (if tkY B p = 20 then 10 else 9999) v.2) fun b => .inr (zr6 (1500 + tkY B p) 0 b.1 0 v.1, b.2) := by
    unfold zpTest zpC
    split
    · rfl
    · split
      · rfl
      · split <;> rfl
  rw [eT] at eR0
  have e19 : (zkc (tkY B p) = nI 16) = (tkY B p = 19) := zkc_eq (k := 19) hy (by decide)
  have e20 : (zkc (tkY B p) = nI 17) = (tkY B p = 20) := zkc_eq (k := 20) hy (by decide)
  have e21 : (zkc (tkY B p) = nI 18) = (tkY B p = 21) := zkc_eq (k := 21) hy (by decide)
  refine qCI.of [some (qr 66), some (qr 1), none, none] ok_136 (Nat.le_of_ble_eq_true rfl) rfl ?_
  have on : ¬ (tkY B p < 19 ∨ tkY B p = 22) → qV 136 5 (.inl (zXk B N n C s 15 p σ)) 34 [some (qr 66), some (qr 1), some (qi (zkc (tkY B p))), none] [] σ := by
    intro g
    rw [if_neg g] at eR0
    refine qV.go 30 [82] ok_136 ?_
    simp only [qW_nop, qW_iconst, qW_iconstm, qW_bipush, qW_sipush, qW_iloadn, qW_aloadn, qW_istoren, qW_iceq, qW_ifne, qW_icne, qW_goto, qW_getf, qW_cv1_0, qW_cv1_2, qW_cv2_0, qW_cv3_0, qW_cv4_2, qW_iret1, Nat.reduceAdd, Nat.reduceMul, Nat.reduceBEq, Nat.reduceEqDiff, Nat.reduceLT, Nat.reduceLeDiff, Nat.zero_le, nI_add, nI_mul, nI_cl, qin_eq, qofI, qlg_0, qlg_s, qls_i0, qls_r0, qls_l0, qls_1, qls_2, qkl_i, qkl_r, qkl_l, qkl_n, qIsI_i, qIsL_l, qIsR_r, qint_i, qil_i, qil_r, qil_l, qf4_0, qf4_1, qf4_2, qf4_3, qf2_0, qf2_1, qcs_n, qcs_i, qcs_r, qcs_l, qst_n, qst_c, qJ_0, qJ_st, qJ_go, qfl_I, qfl_Z, qfl_L, qfl_R, qrI_i, qrL_l, qrV_v, qRcv_0, qRcv_s, eq_self, true_and, and_true, true_or, or_true, false_and, and_false, false_or, or_false, ite_true, if_true, if_false, Bool.true_or, Bool.false_or, Bool.or_false, beq_self_eq_true, Bool.false_eq_true, bX10_takeTest_0, bX10_takeTest_34, bX10_takeTest_63, bX10_takeTest_82, bX10_takeTest_94, bX10_takeTest_118, bX10_takeTest_121, bX10_takeTest_129, kX10_takeTest_0, kX10_takeTest_34, kX10_takeTest_63, kX10_takeTest_82, kX10_takeTest_94, kX10_takeTest_118, kX10_takeTest_121, kX10_takeTest_129, qK_66, qR_66_0, qK_50, qR_66_1, qK_67, qR_66_2, qK_73, qK_67, qR_67_3, qK_68, qR_67_4, qK_69, qR_67_5, qK_70, qR_67_6, qK_71, qR_67_7, qK_72, qK_50, qR_50_0, qK_51, qR_50_13, qK_52, qK_1, qR_1_6, qK_2, qR_1_7, qK_3, qR_1_8, qK_4, qR_1_9, qK_5, qR_1_10, qK_6, qR_1_11, qK_7, qR_1_12, qK_8, qR_1_13, qK_9, qR_1_14, qK_10, qR_1_15, qK_11, qR_1_16, qK_12]
    rw [e19]
    refine qBV.of (x_next hB hp d) (by decide) (fun σ2 g2 => ?_)
    obtain ⟨d2, f2⟩ := g2
    have f2 := zPxs_t f2
    have F2 := zPxt_w f2
    have J2 := J.t f2
    refine And.symm ⟨fun gu => ?_, fun gu => ?_⟩
    · -- up
      rw [if_pos gu] at eR0
      refine qBI.of (x_boyHere zCb_n (hC.t zCb_n f2).1 hw hB ht.2.2.1 d2 (hn.t zCb_n f2) hN) (by decide) (fun v σ3 g3 => ?_)
      rcases zBh_c g3 with ⟨e, he, rfl, hf, f3⟩ | ⟨a, ha, rfl, rfl, a2, am, an⟩
      · refine ⟨fun hh => absurd rfl hh, fun _ => ?_⟩
        exact ⟨zXo_l (by rw [eR0, he]; rfl) rfl hf, F2.tr (zPxt_w f3)⟩
      · refine ⟨fun _ => ?_, fun hh => absurd hh (nI_nem (by omega))⟩
        refine qBV.of (x_next hB ht.2.2.1 d2) (by decide) (fun σ4 g4 => ?_)
        obtain ⟨d4, f4⟩ := g4
        have f4 := zPxs_t f4
        have F4 := F2.tr (zPxt_w f4)
        rw [← a2] at d4
        have J4 := J2.t f4
        have ek : zkc (tkY B p) = nI 16 := by rw [gu]; rfl
        rw [ek]
        refine qBV.of (x_fill (Or.inl rfl) J4.2.1 hm _ _ _) (by decide) (fun σ6 g6 => ?_)
        subst g6
        exact zXk.fin F4 d4 J4 (x := 16) (y := a.1) (z := 0) (r := zr6 1519 a.1 0 0 0) (by rw [eR0, ha]; rfl) rfl rfl rfl
    · rw [if_neg gu] at eR0
      refine qV.go 30 [9999] ok_136 ?_
      simp only [qW_nop, qW_iconst, qW_iconstm, qW_bipush, qW_sipush, qW_iloadn, qW_aloadn, qW_istoren, qW_iceq, qW_ifne, qW_icne, qW_goto, qW_getf, qW_cv1_0, qW_cv1_2, qW_cv2_0, qW_cv3_0, qW_cv4_2, qW_iret1, Nat.reduceAdd, Nat.reduceMul, Nat.reduceBEq, Nat.reduceEqDiff, Nat.reduceLT, Nat.reduceLeDiff, Nat.zero_le, nI_add, nI_mul, nI_cl, qin_eq, qofI, qlg_0, qlg_s, qls_i0, qls_r0, qls_l0, qls_1, qls_2, qkl_i, qkl_r, qkl_l, qkl_n, qIsI_i, qIsL_l, qIsR_r, qint_i, qil_i, qil_r, qil_l, qf4_0, qf4_1, qf4_2, qf4_3, qf2_0, qf2_1, qcs_n, qcs_i, qcs_r, qcs_l, qst_n, qst_c, qJ_0, qJ_st, qJ_go, qfl_I, qfl_Z, qfl_L, qfl_R, qrI_i, qrL_l, qrV_v, qRcv_0, qRcv_s, eq_self, true_and, and_true, true_or, or_true, false_and, and_false, false_or, or_false, ite_true, if_true, if_false, Bool.true_or, Bool.false_or, Bool.or_false, beq_self_eq_true, Bool.false_eq_true, bX10_takeTest_0, bX10_takeTest_34, bX10_takeTest_63, bX10_takeTest_82, bX10_takeTest_94, bX10_takeTest_118, bX10_takeTest_121, bX10_takeTest_129, kX10_takeTest_0, kX10_takeTest_34, kX10_takeTest_63, kX10_takeTest_82, kX10_takeTest_94, kX10_takeTest_118, kX10_takeTest_121, kX10_takeTest_129, qK_66, qR_66_0, qK_50, qR_66_1, qK_67, qR_66_2, qK_73, qK_67, qR_67_3, qK_68, qR_67_4, qK_69, qR_67_5, qK_70, qR_67_6, qK_71, qR_67_7, qK_72, qK_50, qR_50_0, qK_51, qR_50_13, qK_52, qK_1, qR_1_6, qK_2, qR_1_7, qK_3, qR_1_8, qK_4, qR_1_9, qK_5, qR_1_10, qK_6, qR_1_11, qK_7, qR_1_12, qK_8, qR_1_13, qK_9, qR_1_14, qK_10, qR_1_15, qK_11, qR_1_16, qK_12]
      rw [e20]
      refine qBI.of (x_takeCmp hB ht.2.2.1 d2) (by decide) (fun v σ3 g3 => ?_)
      obtain ⟨g3, f3⟩ := g3
      have F3 := F2.tr (zPxt_w f3)
      rcases zXo_c g3 with ⟨e, he, rfl, hf⟩ | ⟨a, ha, rfl, d3, t3⟩
      · simp (disch := omega) only [nI_leI, nI_ltI, nI_eq, nI_cl, qin_eq, nI_add, nI_mul, qb_z, qb_t, qb_f, nI_ne0', Nat.reduceAdd, Bool.false_eq_true, if_false, if_true, true_and, and_true, Nat.reduceEqDiff, not_true_eq_false, not_false_eq_true, false_implies, true_implies, ite_true, ite_false]
        exact ⟨zXo_l (by rw [eR0, he]; rfl) rfl hf, F3⟩
      · have s3 : a.2 ≤ n ∧ (a.1 = 60 ∨ a.1 = 62 ∨ a.1 = 61) := by
          unfold zpC at ha
          split at ha
          · next hh =>
            cases ha
            exact ⟨(tkE_spec hB ht.2.2.1).2.2.1, hh.2⟩
          · cases ha
        have hy2 : tkY B p = 20 ∨ tkY B p = 21 := by omega
        have ek : zkc (tkY B p) = nI (1500 + tkY B p - 1503) := by rcases hy2 with h | h <;> rw [h] <;> rfl
        have rest : ∀ hi, hi = (if tkY B p = 20 then 10 else 9999) → qBI 5 104 [qr 50, qi (nI 0), qi (nI hi)] σ3 fun r σ1 => (¬r = 0 → qBV 5 124 [qr 67, qi (zkc (tkY B p)), qi (σ3.1 50 10), qi (σ1.1 50 10)] σ1 fun σ1 => zXk B N n C s 15 p σ (nI 1) σ1) ∧ (r = 0 → zXk B N n C s 15 p σ (nI 0) σ1) := by
          intro hi hhi
          have h1 : hi < 100000 := by rw [hhi]; split <;> decide
          rw [← hhi] at eR0
          refine qBI.of (x_takeNum hB s3.1 d3 (lo := 0) (hi := hi) (by decide) h1) (by decide) (fun v σ4 g4 => ?_)
          obtain ⟨g4, f4⟩ := g4
          have F4 := F3.tr (zPxt_w f4)
          rcases zXo_c g4 with ⟨e, he, rfl, hf⟩ | ⟨b, hb, rfl, d4, t4⟩
          · simp (disch := omega) only [nI_leI, nI_ltI, nI_eq, nI_cl, qin_eq, nI_add, nI_mul, qb_z, qb_t, qb_f, nI_ne0', Nat.reduceAdd, Bool.false_eq_true, if_false, if_true, true_and, and_true, Nat.reduceEqDiff, not_true_eq_false, not_false_eq_true, false_implies, true_implies, ite_true, ite_false]
            exact ⟨zXo_l (by simp only [eR0, ha, he, zbd_l, zbd_r]) rfl hf, F4⟩
          · simp (disch := omega) only [nI_leI, nI_ltI, nI_eq, nI_cl, qin_eq, nI_add, nI_mul, qb_z, qb_t, qb_f, nI_ne0', Nat.reduceAdd, Bool.false_eq_true, if_false, if_true, true_and, and_true, Nat.reduceEqDiff, not_true_eq_false, not_false_eq_true, false_implies, true_implies, ite_true, ite_false]
            have J4 := (J2.t f3).t f4
            rw [ek, t3, t4]
            refine qBV.of (x_fill (Or.inl rfl) J4.2.1 hm _ _ _) (by decide) (fun σ6 g6 => ?_)
            subst g6
            refine zXk.fin F4 d4 J4 (x := 1500 + tkY B p - 1503) (y := a.1) (z := b.1) (r := zr6 (1500 + tkY B p) 0 b.1 0 a.1) (by simp only [eR0, ha, hb, zbd_r]) ?_ ?_ ?_
            · unfold zwa
              show _ = if 1500 ≤ 1500 + tkY B p then 1500 + tkY B p - 1503 else 0
              rw [if_pos (by omega)]
            · unfold zwb
              show _ = if 1500 + tkY B p = 1519 then 0 else if 1520 ≤ 1500 + tkY B p then a.1 else b.1
              rw [if_neg (by omega), if_pos (by omega)]
            · unfold zwc
              show _ = if 1520 ≤ 1500 + tkY B p then b.1 else 0
              rw [if_pos (by omega)]
        simp (disch := omega) only [nI_leI, nI_ltI, nI_eq, nI_cl, qin_eq, nI_add, nI_mul, qb_z, qb_t, qb_f, nI_ne0', Nat.reduceAdd, Bool.false_eq_true, if_false, if_true, true_and, and_true, Nat.reduceEqDiff, not_true_eq_false, not_false_eq_true, false_implies, true_implies, ite_true, ite_false]
        exact ⟨fun h => rest 9999 (by rw [if_neg h]), fun h => rest 10 (by rw [if_pos h])⟩
  refine qV.go 30 [34] ok_136 ?_
  simp only [qW_nop, qW_iconst, qW_iconstm, qW_bipush, qW_sipush, qW_iloadn, qW_aloadn, qW_istoren, qW_iceq, qW_ifne, qW_icne, qW_goto, qW_getf, qW_cv1_0, qW_cv1_2, qW_cv2_0, qW_cv3_0, qW_cv4_2, qW_iret1, Nat.reduceAdd, Nat.reduceMul, Nat.reduceBEq, Nat.reduceEqDiff, Nat.reduceLT, Nat.reduceLeDiff, Nat.zero_le, nI_add, nI_mul, nI_cl, qin_eq, qofI, qlg_0, qlg_s, qls_i0, qls_r0, qls_l0, qls_1, qls_2, qkl_i, qkl_r, qkl_l, qkl_n, qIsI_i, qIsL_l, qIsR_r, qint_i, qil_i, qil_r, qil_l, qf4_0, qf4_1, qf4_2, qf4_3, qf2_0, qf2_1, qcs_n, qcs_i, qcs_r, qcs_l, qst_n, qst_c, qJ_0, qJ_st, qJ_go, qfl_I, qfl_Z, qfl_L, qfl_R, qrI_i, qrL_l, qrV_v, qRcv_0, qRcv_s, eq_self, true_and, and_true, true_or, or_true, false_and, and_false, false_or, or_false, ite_true, if_true, if_false, Bool.true_or, Bool.false_or, Bool.or_false, beq_self_eq_true, Bool.false_eq_true, bX10_takeTest_0, bX10_takeTest_34, bX10_takeTest_63, bX10_takeTest_82, bX10_takeTest_94, bX10_takeTest_118, bX10_takeTest_121, bX10_takeTest_129, kX10_takeTest_0, kX10_takeTest_34, kX10_takeTest_63, kX10_takeTest_82, kX10_takeTest_94, kX10_takeTest_118, kX10_takeTest_121, kX10_takeTest_129, qK_66, qR_66_0, qK_50, qR_66_1, qK_67, qR_66_2, qK_73, qK_67, qR_67_3, qK_68, qR_67_4, qK_69, qR_67_5, qK_70, qR_67_6, qK_71, qR_67_7, qK_72, qK_50, qR_50_0, qK_51, qR_50_13, qK_52]
  rw [d.1.2.2.2.2.1, e19, e20, e21]
  refine ⟨fun h => on (by omega), fun h => ⟨fun h2 => on (by omega), fun h2 => ⟨fun h3 => on (by omega), fun h3 => ?_⟩⟩⟩
  rw [if_pos (by omega)] at eR0
  refine qBI.of (x_cannot d) (by decide) (fun v σ4 g4 => ?_)
  obtain ⟨rfl, g4, f4⟩ := g4
  exact ⟨Or.inl rfl, zXo_l eR0 rfl g4, zPxt_w f4⟩
-- a line's rest, by its word
set_option maxRecDepth 20000 in
theorem x_takeRest {σ : qSg} {B : Nat → Nat} {N : Nat → List Nat} {n p : Nat} {C : zC} {s : zQ} {k : Nat} (hB : zBW B n) (hp : p ≤ n) (d : zXd σ B n p) (J : zXj σ s k 0 0 0) (hm : s.2.1 < 60) (hC : zX σ 1 C) (hw : zW C) (hn : zXnm σ 1 (C 0 0) N) (hN : zNW (C 0 0) N) (hk : k = 3 ∨ (10 ≤ k ∧ k ≤ 18)) (h17 : k ≠ 17) : qCI 6 131 [qr 66, qi (zkc k), qr 1] σ (zXk B N n C s k p σ) := by
  have wb := hw.1
  have hkk : k = 3 ∨ k = 10 ∨ k = 11 ∨ k = 12 ∨ k = 13 ∨ k = 14 ∨ k = 15 ∨ k = 16 ∨ k = 18 := by omega
  have et : (zkc k).toInt = (zkn k : Int) := by rw [zkc_t (by omega), if_pos (by omega)]
  refine qCI.of [some (qr 66), some (qi (zkc k)), some (qr 1)] ok_131 (Nat.le_of_ble_eq_true rfl) rfl ?_
  have rest : (k = 11 ∨ k = 14 ∨ k = 18) → qV 131 6 (.inl (zXk B N n C s k p σ)) 104 [some (qr 66), some (qi (zkc k)), some (qr 1)] [] σ := by
    intro e
    have eR : zpRow B N (C 0 0) (C 0 2 * C 0 3) k p = .inr (zr6 k 0 0 0 0, p) := by
      unfold zpRow
      rw [if_neg (by omega), if_neg (by omega), if_neg (by omega), if_neg (by omega), if_neg (by omega), if_neg (by omega)]
    refine qV.go 30 [9999] ok_131 ?_
    simp only [qW_nop, qW_iconst, qW_bipush, qW_iloadn, qW_aloadn, qW_tsw, qW_cv2_0, qW_cv3_0, qW_iret1, Nat.reduceAdd, Nat.reduceMul, Nat.reduceBEq, Nat.reduceEqDiff, Nat.reduceLT, Nat.reduceLeDiff, Nat.zero_le, nI_add, nI_mul, nI_cl, qin_eq, qofI, qlg_0, qlg_s, qls_i0, qls_r0, qls_l0, qls_1, qls_2, qkl_i, qkl_r, qkl_l, qkl_n, qIsI_i, qIsL_l, qIsR_r, qint_i, qil_i, qil_r, qil_l, qf4_0, qf4_1, qf4_2, qf4_3, qf2_0, qf2_1, qcs_n, qcs_i, qcs_r, qcs_l, qst_n, qst_c, qJ_0, qJ_st, qJ_go, qfl_I, qfl_Z, qfl_L, qfl_R, qrI_i, qrL_l, qrV_v, qRcv_0, qRcv_s, eq_self, true_and, and_true, true_or, or_true, false_and, and_false, false_or, or_false, ite_true, if_true, if_false, Bool.true_or, Bool.false_or, Bool.or_false, beq_self_eq_true, Bool.false_eq_true, bX10_takeRest_0, bX10_takeRest_64, bX10_takeRest_72, bX10_takeRest_80, bX10_takeRest_86, bX10_takeRest_92, bX10_takeRest_98, bX10_takeRest_104, kX10_takeRest_0, kX10_takeRest_64, kX10_takeRest_72, kX10_takeRest_80, kX10_takeRest_86, kX10_takeRest_92, kX10_takeRest_98, kX10_takeRest_104, qK_66, qR_66_0, qK_50, qR_66_1, qK_67, qR_66_2, qK_73]
    obtain ⟨w1, w2, w3⟩ := zw_6 (k := k) (a := 0) (b := 0) (c := 0) (by omega)
    refine ⟨zXo_r (a := (zr6 k 0 0 0 0, p)) eR rfl ⟨d, ?_⟩, zG.rf⟩
    show zXj σ s k (zwa (zr6 k 0 0 0 0)) (zwb (zr6 k 0 0 0 0)) (zwc (zr6 k 0 0 0 0))
    rw [w1, w2, w3]
    exact J
  have ez : (zkn k = 8 → k = 3) ∧ (zkn k = 10 → k = 10) ∧ (zkn k = 11 → k = 11) ∧ (zkn k = 12 → k = 12) ∧ (zkn k = 13 → k = 13) ∧ (zkn k = 14 → k = 14) ∧ (zkn k = 15 → k = 15) ∧ (zkn k = 19 → k = 16) ∧ (zkn k ≠ 9 ∧ zkn k ≠ 16 ∧ zkn k ≠ 17 ∧ zkn k ≠ 18) ∧ (zkn k < 8 ∨ 19 < zkn k → k = 18) := by
    rcases hkk with rfl | rfl | rfl | rfl | rfl | rfl | rfl | rfl | rfl <;> decide
  obtain ⟨z8, z10, z11, z12, z13, z14, z15, z19, zn, zo⟩ := ez
  refine qV.go 30 [64, 72, 80, 86, 92, 98, 104] ok_131 ?_
  simp only [qW_nop, qW_iconst, qW_bipush, qW_iloadn, qW_aloadn, qW_tsw, qW_cv2_0, qW_cv3_0, qW_iret1, Nat.reduceAdd, Nat.reduceMul, Nat.reduceBEq, Nat.reduceEqDiff, Nat.reduceLT, Nat.reduceLeDiff, Nat.zero_le, nI_add, nI_mul, nI_cl, qin_eq, qofI, qlg_0, qlg_s, qls_i0, qls_r0, qls_l0, qls_1, qls_2, qkl_i, qkl_r, qkl_l, qkl_n, qIsI_i, qIsL_l, qIsR_r, qint_i, qil_i, qil_r, qil_l, qf4_0, qf4_1, qf4_2, qf4_3, qf2_0, qf2_1, qcs_n, qcs_i, qcs_r, qcs_l, qst_n, qst_c, qJ_0, qJ_st, qJ_go, qfl_I, qfl_Z, qfl_L, qfl_R, qrI_i, qrL_l, qrV_v, qRcv_0, qRcv_s, eq_self, true_and, and_true, true_or, or_true, false_and, and_false, false_or, or_false, ite_true, if_true, if_false, Bool.true_or, Bool.false_or, Bool.or_false, beq_self_eq_true, Bool.false_eq_true, bX10_takeRest_0, bX10_takeRest_64, bX10_takeRest_72, bX10_takeRest_80, bX10_takeRest_86, bX10_takeRest_92, bX10_takeRest_98, bX10_takeRest_104, kX10_takeRest_0, kX10_takeRest_64, kX10_takeRest_72, kX10_takeRest_80, kX10_takeRest_86, kX10_takeRest_92, kX10_takeRest_98, kX10_takeRest_104, qK_66, qR_66_0, qK_50, qR_66_1, qK_67, qR_66_2, qK_73]
  rw [qsw]
  simp only [qsl, et]
  refine ⟨fun g => ?_, fun g => ?_, fun g => absurd g (by omega), fun g => ?_, fun g => ?_, fun g => ?_, fun g => ?_, fun g => ?_, fun g => ?_, fun g => absurd g (by omega), fun g => absurd g (by omega), fun g => absurd g (by omega), fun g => ?_, trivial⟩
  · rw [qJ_st _ _ _ _ _ (by rfl)]
    exact rest (Or.inr (Or.inr (zo (by omega))))
  · have e := z8 (by omega)
    subst e
    rw [qJ_st _ _ _ _ _ (by rfl)]
    refine qV.go 30 [9999] ok_131 ?_
    simp only [qW_nop, qW_iconst, qW_bipush, qW_iloadn, qW_aloadn, qW_tsw, qW_cv2_0, qW_cv3_0, qW_iret1, Nat.reduceAdd, Nat.reduceMul, Nat.reduceBEq, Nat.reduceEqDiff, Nat.reduceLT, Nat.reduceLeDiff, Nat.zero_le, nI_add, nI_mul, nI_cl, qin_eq, qofI, qlg_0, qlg_s, qls_i0, qls_r0, qls_l0, qls_1, qls_2, qkl_i, qkl_r, qkl_l, qkl_n, qIsI_i, qIsL_l, qIsR_r, qint_i, qil_i, qil_r, qil_l, qf4_0, qf4_1, qf4_2, qf4_3, qf2_0, qf2_1, qcs_n, qcs_i, qcs_r, qcs_l, qst_n, qst_c, qJ_0, qJ_st, qJ_go, qfl_I, qfl_Z, qfl_L, qfl_R, qrI_i, qrL_l, qrV_v, qRcv_0, qRcv_s, eq_self, true_and, and_true, true_or, or_true, false_and, and_false, false_or, or_false, ite_true, if_true, if_false, Bool.true_or, Bool.false_or, Bool.or_false, beq_self_eq_true, Bool.false_eq_true, bX10_takeRest_0, bX10_takeRest_64, bX10_takeRest_72, bX10_takeRest_80, bX10_takeRest_86, bX10_takeRest_92, bX10_takeRest_98, bX10_takeRest_104, kX10_takeRest_0, kX10_takeRest_64, kX10_takeRest_72, kX10_takeRest_80, kX10_takeRest_86, kX10_takeRest_92, kX10_takeRest_98, kX10_takeRest_104, qK_66, qR_66_0, qK_50, qR_66_1, qK_67, qR_66_2, qK_73, qK_1, qR_1_6, qK_2, qR_1_7, qK_3, qR_1_8, qK_4, qR_1_9, qK_5, qR_1_10, qK_6, qR_1_11, qK_7, qR_1_12, qK_8, qR_1_13, qK_9, qR_1_14, qK_10, qR_1_15, qK_11, qR_1_16, qK_12]
    refine qBI.of (x_takePair hB hp d J hm hC hw hn hN) (by decide) (fun v σ4 g4 => ?_)
    exact ⟨(zXo_c g4.1).elim (fun ⟨e, _, h, _⟩ => Or.inl h) (fun ⟨a, _, h, _⟩ => Or.inr h), g4⟩
  · have e := z10 (by omega)
    subst e
    rw [qJ_st _ _ _ _ _ (by rfl)]
    refine qV.go 30 [9999] ok_131 ?_
    simp only [qW_nop, qW_iconst, qW_bipush, qW_iloadn, qW_aloadn, qW_tsw, qW_cv2_0, qW_cv3_0, qW_iret1, Nat.reduceAdd, Nat.reduceMul, Nat.reduceBEq, Nat.reduceEqDiff, Nat.reduceLT, Nat.reduceLeDiff, Nat.zero_le, nI_add, nI_mul, nI_cl, qin_eq, qofI, qlg_0, qlg_s, qls_i0, qls_r0, qls_l0, qls_1, qls_2, qkl_i, qkl_r, qkl_l, qkl_n, qIsI_i, qIsL_l, qIsR_r, qint_i, qil_i, qil_r, qil_l, qf4_0, qf4_1, qf4_2, qf4_3, qf2_0, qf2_1, qcs_n, qcs_i, qcs_r, qcs_l, qst_n, qst_c, qJ_0, qJ_st, qJ_go, qfl_I, qfl_Z, qfl_L, qfl_R, qrI_i, qrL_l, qrV_v, qRcv_0, qRcv_s, eq_self, true_and, and_true, true_or, or_true, false_and, and_false, false_or, or_false, ite_true, if_true, if_false, Bool.true_or, Bool.false_or, Bool.or_false, beq_self_eq_true, Bool.false_eq_true, bX10_takeRest_0, bX10_takeRest_64, bX10_takeRest_72, bX10_takeRest_80, bX10_takeRest_86, bX10_takeRest_92, bX10_takeRest_98, bX10_takeRest_104, kX10_takeRest_0, kX10_takeRest_64, kX10_takeRest_72, kX10_takeRest_80, kX10_takeRest_86, kX10_takeRest_92, kX10_takeRest_98, kX10_takeRest_104, qK_66, qR_66_0, qK_50, qR_66_1, qK_67, qR_66_2, qK_73, qK_1, qR_1_6, qK_2, qR_1_7, qK_3, qR_1_8, qK_4, qR_1_9, qK_5, qR_1_10, qK_6, qR_1_11, qK_7, qR_1_12, qK_8, qR_1_13, qK_9, qR_1_14, qK_10, qR_1_15, qK_11, qR_1_16, qK_12]
    refine qBI.of (x_takeOne (N := N) (C := C) hB hp d J hm (by decide) (lo := 1) (hi := 60) (by decide) (by decide) (by unfold zpRow; rw [if_pos rfl])) (by decide) (fun v σ4 g4 => ?_)
    exact ⟨(zXo_c g4.1).elim (fun ⟨e, _, h, _⟩ => Or.inl h) (fun ⟨a, _, h, _⟩ => Or.inr h), g4⟩
  · rw [qJ_st _ _ _ _ _ (by rfl)]
    exact rest (Or.inl (z11 (by omega)))
  · have e := z12 (by omega)
    subst e
    rw [qJ_st _ _ _ _ _ (by rfl)]
    refine qV.go 30 [9999] ok_131 ?_
    simp only [qW_nop, qW_iconst, qW_bipush, qW_iloadn, qW_aloadn, qW_tsw, qW_cv2_0, qW_cv3_0, qW_iret1, Nat.reduceAdd, Nat.reduceMul, Nat.reduceBEq, Nat.reduceEqDiff, Nat.reduceLT, Nat.reduceLeDiff, Nat.zero_le, nI_add, nI_mul, nI_cl, qin_eq, qofI, qlg_0, qlg_s, qls_i0, qls_r0, qls_l0, qls_1, qls_2, qkl_i, qkl_r, qkl_l, qkl_n, qIsI_i, qIsL_l, qIsR_r, qint_i, qil_i, qil_r, qil_l, qf4_0, qf4_1, qf4_2, qf4_3, qf2_0, qf2_1, qcs_n, qcs_i, qcs_r, qcs_l, qst_n, qst_c, qJ_0, qJ_st, qJ_go, qfl_I, qfl_Z, qfl_L, qfl_R, qrI_i, qrL_l, qrV_v, qRcv_0, qRcv_s, eq_self, true_and, and_true, true_or, or_true, false_and, and_false, false_or, or_false, ite_true, if_true, if_false, Bool.true_or, Bool.false_or, Bool.or_false, beq_self_eq_true, Bool.false_eq_true, bX10_takeRest_0, bX10_takeRest_64, bX10_takeRest_72, bX10_takeRest_80, bX10_takeRest_86, bX10_takeRest_92, bX10_takeRest_98, bX10_takeRest_104, kX10_takeRest_0, kX10_takeRest_64, kX10_takeRest_72, kX10_takeRest_80, kX10_takeRest_86, kX10_takeRest_92, kX10_takeRest_98, kX10_takeRest_104, qK_66, qR_66_0, qK_50, qR_66_1, qK_67, qR_66_2, qK_73, qK_1, qR_1_6, qK_2, qR_1_7, qK_3, qR_1_8, qK_4, qR_1_9, qK_5, qR_1_10, qK_6, qR_1_11, qK_7, qR_1_12, qK_8, qR_1_13, qK_9, qR_1_14, qK_10, qR_1_15, qK_11, qR_1_16, qK_12]
    refine qBI.of (x_takeBoyW hB hp d J hm hC hw hn hN) (by decide) (fun v σ4 g4 => ?_)
    exact ⟨(zXo_c g4.1).elim (fun ⟨e, _, h, _⟩ => Or.inl h) (fun ⟨a, _, h, _⟩ => Or.inr h), g4⟩
  · have e := z13 (by omega)
    subst e
    rw [qJ_st _ _ _ _ _ (by rfl)]
    refine qV.go 30 [9999] ok_131 ?_
    simp only [qW_nop, qW_iconst, qW_bipush, qW_iloadn, qW_aloadn, qW_tsw, qW_cv2_0, qW_cv3_0, qW_iret1, Nat.reduceAdd, Nat.reduceMul, Nat.reduceBEq, Nat.reduceEqDiff, Nat.reduceLT, Nat.reduceLeDiff, Nat.zero_le, nI_add, nI_mul, nI_cl, qin_eq, qofI, qlg_0, qlg_s, qls_i0, qls_r0, qls_l0, qls_1, qls_2, qkl_i, qkl_r, qkl_l, qkl_n, qIsI_i, qIsL_l, qIsR_r, qint_i, qil_i, qil_r, qil_l, qf4_0, qf4_1, qf4_2, qf4_3, qf2_0, qf2_1, qcs_n, qcs_i, qcs_r, qcs_l, qst_n, qst_c, qJ_0, qJ_st, qJ_go, qfl_I, qfl_Z, qfl_L, qfl_R, qrI_i, qrL_l, qrV_v, qRcv_0, qRcv_s, eq_self, true_and, and_true, true_or, or_true, false_and, and_false, false_or, or_false, ite_true, if_true, if_false, Bool.true_or, Bool.false_or, Bool.or_false, beq_self_eq_true, Bool.false_eq_true, bX10_takeRest_0, bX10_takeRest_64, bX10_takeRest_72, bX10_takeRest_80, bX10_takeRest_86, bX10_takeRest_92, bX10_takeRest_98, bX10_takeRest_104, kX10_takeRest_0, kX10_takeRest_64, kX10_takeRest_72, kX10_takeRest_80, kX10_takeRest_86, kX10_takeRest_92, kX10_takeRest_98, kX10_takeRest_104, qK_66, qR_66_0, qK_50, qR_66_1, qK_67, qR_66_2, qK_73, qK_1, qR_1_6, qK_2, qR_1_7, qK_3, qR_1_8, qK_4, qR_1_9, qK_5, qR_1_10, qK_6, qR_1_11, qK_7, qR_1_12, qK_8, qR_1_13, qK_9, qR_1_14, qK_10, qR_1_15, qK_11, qR_1_16, qK_12]
    refine qBI.of (x_takeBoyCell hB hp d J hm hC hw hn hN) (by decide) (fun v σ4 g4 => ?_)
    exact ⟨(zXo_c g4.1).elim (fun ⟨e, _, h, _⟩ => Or.inl h) (fun ⟨a, _, h, _⟩ => Or.inr h), g4⟩
  · rw [qJ_st _ _ _ _ _ (by rfl)]
    exact rest (Or.inr (Or.inl (z14 (by omega))))
  · have e := z15 (by omega)
    subst e
    rw [qJ_st _ _ _ _ _ (by rfl)]
    refine qV.go 30 [9999] ok_131 ?_
    simp only [qW_nop, qW_iconst, qW_bipush, qW_iloadn, qW_aloadn, qW_tsw, qW_cv2_0, qW_cv3_0, qW_iret1, Nat.reduceAdd, Nat.reduceMul, Nat.reduceBEq, Nat.reduceEqDiff, Nat.reduceLT, Nat.reduceLeDiff, Nat.zero_le, nI_add, nI_mul, nI_cl, qin_eq, qofI, qlg_0, qlg_s, qls_i0, qls_r0, qls_l0, qls_1, qls_2, qkl_i, qkl_r, qkl_l, qkl_n, qIsI_i, qIsL_l, qIsR_r, qint_i, qil_i, qil_r, qil_l, qf4_0, qf4_1, qf4_2, qf4_3, qf2_0, qf2_1, qcs_n, qcs_i, qcs_r, qcs_l, qst_n, qst_c, qJ_0, qJ_st, qJ_go, qfl_I, qfl_Z, qfl_L, qfl_R, qrI_i, qrL_l, qrV_v, qRcv_0, qRcv_s, eq_self, true_and, and_true, true_or, or_true, false_and, and_false, false_or, or_false, ite_true, if_true, if_false, Bool.true_or, Bool.false_or, Bool.or_false, beq_self_eq_true, Bool.false_eq_true, bX10_takeRest_0, bX10_takeRest_64, bX10_takeRest_72, bX10_takeRest_80, bX10_takeRest_86, bX10_takeRest_92, bX10_takeRest_98, bX10_takeRest_104, kX10_takeRest_0, kX10_takeRest_64, kX10_takeRest_72, kX10_takeRest_80, kX10_takeRest_86, kX10_takeRest_92, kX10_takeRest_98, kX10_takeRest_104, qK_66, qR_66_0, qK_50, qR_66_1, qK_67, qR_66_2, qK_73, qK_1, qR_1_6, qK_2, qR_1_7, qK_3, qR_1_8, qK_4, qR_1_9, qK_5, qR_1_10, qK_6, qR_1_11, qK_7, qR_1_12, qK_8, qR_1_13, qK_9, qR_1_14, qK_10, qR_1_15, qK_11, qR_1_16, qK_12]
    refine qBI.of (x_takeTest hB hp d J hm hC hw hn hN) (by decide) (fun v σ4 g4 => ?_)
    exact ⟨(zXo_c g4.1).elim (fun ⟨e, _, h, _⟩ => Or.inl h) (fun ⟨a, _, h, _⟩ => Or.inr h), g4⟩
  · have e := z19 (by omega)
    subst e
    rw [qJ_st _ _ _ _ _ (by rfl)]
    refine qV.go 30 [9999] ok_131 ?_
    simp only [qW_nop, qW_iconst, qW_bipush, qW_iloadn, qW_aloadn, qW_tsw, qW_cv2_0, qW_cv3_0, qW_iret1, Nat.reduceAdd, Nat.reduceMul, Nat.reduceBEq, Nat.reduceEqDiff, Nat.reduceLT, Nat.reduceLeDiff, Nat.zero_le, nI_add, nI_mul, nI_cl, qin_eq, qofI, qlg_0, qlg_s, qls_i0, qls_r0, qls_l0, qls_1, qls_2, qkl_i, qkl_r, qkl_l, qkl_n, qIsI_i, qIsL_l, qIsR_r, qint_i, qil_i, qil_r, qil_l, qf4_0, qf4_1, qf4_2, qf4_3, qf2_0, qf2_1, qcs_n, qcs_i, qcs_r, qcs_l, qst_n, qst_c, qJ_0, qJ_st, qJ_go, qfl_I, qfl_Z, qfl_L, qfl_R, qrI_i, qrL_l, qrV_v, qRcv_0, qRcv_s, eq_self, true_and, and_true, true_or, or_true, false_and, and_false, false_or, or_false, ite_true, if_true, if_false, Bool.true_or, Bool.false_or, Bool.or_false, beq_self_eq_true, Bool.false_eq_true, bX10_takeRest_0, bX10_takeRest_64, bX10_takeRest_72, bX10_takeRest_80, bX10_takeRest_86, bX10_takeRest_92, bX10_takeRest_98, bX10_takeRest_104, kX10_takeRest_0, kX10_takeRest_64, kX10_takeRest_72, kX10_takeRest_80, kX10_takeRest_86, kX10_takeRest_92, kX10_takeRest_98, kX10_takeRest_104, qK_66, qR_66_0, qK_50, qR_66_1, qK_67, qR_66_2, qK_73, qK_1, qR_1_6, qK_2, qR_1_7, qK_3, qR_1_8, qK_4, qR_1_9, qK_5, qR_1_10, qK_6, qR_1_11, qK_7, qR_1_12, qK_8, qR_1_13, qK_9, qR_1_14, qK_10, qR_1_15, qK_11, qR_1_16, qK_12]
    refine qBI.of (x_takeOne (N := N) (C := C) hB hp d J hm (by decide) (lo := 1) (hi := 99) (by decide) (by decide) (by unfold zpRow; rw [if_neg (by decide), if_neg (by decide), if_neg (by decide), if_neg (by decide), if_pos rfl])) (by decide) (fun v σ4 g4 => ?_)
    exact ⟨(zXo_c g4.1).elim (fun ⟨e, _, h, _⟩ => Or.inl h) (fun ⟨a, _, h, _⟩ => Or.inr h), g4⟩
