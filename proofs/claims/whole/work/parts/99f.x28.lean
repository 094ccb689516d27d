/-! the class: the camp's reader -/
theorem zX.dim {σ : qSg} {r : Nat} {C : zC} (h : zX σ r C) {i j v : Nat} (hij : (i = 0 ∧ j = 2) ∨ (i = 1 ∧ j = 3) ∨ (i = 2 ∧ j = 4)) (h0 : C 0 0 = 0 ∨ j = 4) : zX (qwi σ r i (nI v)) r (zu C 0 j v) := by
  obtain ⟨⟨⟨a0, a1, a2, a3, a4, a5⟩, b, c⟩, d⟩ := h
  have k : ∀ x, x ≠ i → (qwi σ r i (nI v)).1 r x = σ.1 r x := fun x hx => by rw [qwi_1, if_neg (by omega)]
  have ki : (qwi σ r i (nI v)).1 r i = nI v := by rw [qwi_1, if_pos ⟨rfl, rfl⟩]
  have z : ∀ x, x ≠ j → zu C 0 j v 0 x = C 0 x := fun x hx => zu_ne (by omega)
  have zi : zu C 0 j v 0 j = v := zu_eq
  refine ⟨⟨?_, fun x hx f hf => ?_, fun q hq f hf => ?_⟩, fun x hx => ?_⟩
  · rcases hij with ⟨rfl, rfl⟩ | ⟨rfl, rfl⟩ | ⟨rfl, rfl⟩
    · refine ⟨by rw [ki, zi], by rw [k 1 (by decide), z 3 (by decide)]; exact a1, by rw [k 2 (by decide), z 4 (by decide)]; exact a2, by rw [k 3 (by decide), z 5 (by decide)]; exact a3, by rw [k 4 (by decide), z 0 (by decide)]; exact a4, by rw [k 5 (by decide), z 1 (by decide)]; exact a5⟩
    · refine ⟨by rw [k 0 (by decide), z 2 (by decide)]; exact a0, by rw [ki, zi], by rw [k 2 (by decide), z 4 (by decide)]; exact a2, by rw [k 3 (by decide), z 5 (by decide)]; exact a3, by rw [k 4 (by decide), z 0 (by decide)]; exact a4, by rw [k 5 (by decide), z 1 (by decide)]; exact a5⟩
    · refine ⟨by rw [k 0 (by decide), z 2 (by decide)]; exact a0, by rw [k 1 (by decide), z 3 (by decide)]; exact a1, by rw [ki, zi], by rw [k 3 (by decide), z 5 (by decide)]; exact a3, by rw [k 4 (by decide), z 0 (by decide)]; exact a4, by rw [k 5 (by decide), z 1 (by decide)]; exact a5⟩
  · rw [z 0 (by omega)] at hx
    rw [qwi_1, if_neg (by omega), zu_ne (by omega)]
    exact b x hx f hf
  · rw [z 1 (by omega)] at hq
    rw [qwi_1, if_neg (by omega), zu_ne (by omega)]
    exact c q hq f hf
  · rw [z 0 (by omega)] at hx
    rw [qwi_1, if_neg (by omega)]
    have e : znear (zu C 0 j v) x = znear C x := by
      rcases h0 with h0 | h0
      · omega
      · exact znear_cg (z 0 (by omega)) (z 2 (by omega)) (fun i => zu_ne (by omega)) (fun i => zu_ne (by omega)) x
    rw [e]
    exact d x hx
-- the reader's object 53, its draft 54
def zXs (σ : qSg) (s : zS) : Prop := zX σ 54 s.1 ∧ zXnm σ 54 (s.1 0 0) s.2.1 ∧ (∃ ft : Bool, σ.1 53 2 = qb ft ∧ s.2.2.1 = (ft || decide (0 < s.1 0 0))) ∧ σ.1 53 3 = qb s.2.2.2
def zPcr (a j : Nat) : Prop := (a = 50 ∧ 3 ≤ j ∧ j ≤ 12) ∨ (a = 53 ∧ (j = 2 ∨ j = 3)) ∨ (54 ≤ a ∧ a ≤ 65)
def zRcr (a j : Nat) : Prop := (a = 50 ∧ j = 6) ∨ a = 55
theorem zPxt_c {σ σ' : qSg} (f : zG zPxt zRxt σ σ') : zG zPcr zRcr σ σ' := f.wk (fun a j h => by unfold zPxt at h; unfold zPcr; omega) (fun a j h => by unfold zRxt at h; unfold zRcr; omega)
theorem zX.t {σ σ' : qSg} {r : Nat} {C : zC} (h : zX σ r C) (hr : zCb r) (f : zG zPxt zRxt σ σ') : zX σ' r C := h.fr fun a j h1 h2 => f.1 a j (by unfold zCb at hr; unfold zPxt; omega)
theorem zXnm.t {σ σ' : qSg} {r m : Nat} {N : Nat → List Nat} (h : zXnm σ r m N) (hr : zCb r) (f : zG zPxt zRxt σ σ') : zXnm σ' r m N := fun b hb => by
  rw [f.2 _ _ (by unfold zCb at hr; unfold zRxt; omega)]
  exact h b hb
theorem zCb_d : zCb 54 := Or.inr (Or.inr (Or.inr (Or.inl rfl)))
theorem zXs.t {σ σ' : qSg} {s : zS} (h : zXs σ s) (f : zG zPxt zRxt σ σ') : zXs σ' s := by
  obtain ⟨h1, h2, ⟨ft, h3, h4⟩, h5⟩ := h
  refine ⟨h1.t zCb_d f, h2.t zCb_d f, ⟨ft, ?_, h4⟩, ?_⟩
  · rw [f.1 _ _ (by unfold zPxt; omega)]; exact h3
  · rw [f.1 _ _ (by unfold zPxt; omega)]; exact h5
/-- other cells than the text's change -/
theorem zXd.c {σ : qSg} {B : Nat → Nat} {n p : Nat} (h : zXd σ B n p) {a j : Nat} {x : Int32} (ha : a ≠ 50 ∧ a ≠ 51) : zXd (qwi σ a j x) B n p :=
  h.o (P := fun b i => b = a ∧ i = j) (R := fun _ _ => False) (zG.wi ⟨rfl, rfl⟩) (fun j _ _ _ hh => by omega) (fun j hh => by omega) (fun j hh => hh) (fun hh => hh)
def zXp (B : Nat → Nat) (n : Nat) (s : zS) (p : Nat) (σ : qSg) (v : Int32) (σ' : qSg) : Prop := zXo (zpPart B s p) v σ' (fun r => zXd σ' B n r.2 ∧ zXs σ' r.1) ∧ zG zPcr zRcr σ σ'
set_option maxRecDepth 20000 in
theorem x_takeField {σ : qSg} {B : Nat → Nat} {n p : Nat} {s : zS} (hB : zBW B n) (hp : p ≤ n) (h : zXd σ B n p) (hs : zXs σ s) (hw : zSW s) (hk : tkY B p = 0) : qCI 5 35 [qr 53] σ (zXp B n s p σ) := by
  have wb := hw.1.1
  have ht := tkE_spec hB hp
  have k2 := tkY_w (B := B) (p := p) (by omega)
  obtain ⟨hX, hN, ⟨ft, h2, e2⟩, h3⟩ := id hs
  have e0 : zpPart0 B s p = (if s.2.2.1 = true then .inl (zno B p 5) else zbd (zpField B (tkE B p)) fun r => .inr ((zu (zu s.1 0 2 r.1.1) 0 3 r.1.2, s.2.1, true, s.2.2.2), r.2)) := by unfold zpPart0; rw [if_pos hk]
  have eb : σ.1 54 4 = nI (s.1 0 0) := hX.1.b
  refine qCI.of [some (qr 53)] ok_35 (Nat.le_of_ble_eq_true rfl) rfl ?_
  have bad : s.2.2.1 = true → qV 35 5 (.inl (zXp B n s p σ)) 17 [some (qr 53)] [] σ := by
    intro e
    refine qV.go 30 [9999] ok_35 ?_
    simp only [qW_nop, qW_iconst, qW_bipush, qW_aloadn, qW_ifeq, qW_ifne, qW_ifle, qW_getf, qW_cv1_0, qW_cv1_2, qW_cv2_0, qW_cv3_0, qW_iret1, qW_putf0, qW_putf3, Nat.reduceAdd, Nat.reduceMul, Nat.reduceBEq, Nat.reduceEqDiff, Nat.reduceLT, Nat.reduceLeDiff, Nat.zero_le, nI_add, nI_mul, nI_cl, qin_eq, qofI, qlg_0, qlg_s, qls_i0, qls_r0, qls_l0, qls_1, qls_2, qkl_i, qkl_r, qkl_l, qkl_n, qIsI_i, qIsL_l, qIsR_r, qint_i, qil_i, qil_r, qil_l, qf4_0, qf4_1, qf4_2, qf4_3, qf2_0, qf2_1, qcs_n, qcs_i, qcs_r, qcs_l, qst_n, qst_c, qJ_0, qJ_st, qJ_go, qfl_I, qfl_Z, qfl_L, qfl_R, qrI_i, qrL_l, qrV_v, qRcv_0, qRcv_s, eq_self, true_and, and_true, true_or, or_true, false_and, and_false, false_or, or_false, ite_true, if_true, if_false, Bool.true_or, Bool.false_or, Bool.or_false, beq_self_eq_true, Bool.false_eq_true, bX2_takeField_0, bX2_takeField_17, bX2_takeField_26, bX2_takeField_53, bX2_takeField_91, bX2_takeField_93, kX2_takeField_0, kX2_takeField_17, kX2_takeField_26, kX2_takeField_53, kX2_takeField_91, kX2_takeField_93, qK_53, qR_53_0, qK_50, qR_53_1, qK_54, qK_50, qR_50_0, qK_51, qR_50_13, qK_52]
    refine qBI.of (x_fail h 5) (by decide) (fun v σ1 g => ?_)
    obtain ⟨rfl, g1, g2⟩ := g
    refine ⟨Or.inl rfl, zXo_l (e := zno B p 5) (by unfold zpPart; rw [e0, if_pos e]; rfl) rfl ?_, zPxt_c g2⟩
    rw [zno_ne (by omega)]
    exact g1
  refine qV.go 30 [17, 26] ok_35 ?_
  simp only [qW_nop, qW_iconst, qW_bipush, qW_aloadn, qW_ifeq, qW_ifne, qW_ifle, qW_getf, qW_cv1_0, qW_cv1_2, qW_cv2_0, qW_cv3_0, qW_iret1, qW_putf0, qW_putf3, Nat.reduceAdd, Nat.reduceMul, Nat.reduceBEq, Nat.reduceEqDiff, Nat.reduceLT, Nat.reduceLeDiff, Nat.zero_le, nI_add, nI_mul, nI_cl, qin_eq, qofI, qlg_0, qlg_s, qls_i0, qls_r0, qls_l0, qls_1, qls_2, qkl_i, qkl_r, qkl_l, qkl_n, qIsI_i, qIsL_l, qIsR_r, qint_i, qil_i, qil_r, qil_l, qf4_0, qf4_1, qf4_2, qf4_3, qf2_0, qf2_1, qcs_n, qcs_i, qcs_r, qcs_l, qst_n, qst_c, qJ_0, qJ_st, qJ_go, qfl_I, qfl_Z, qfl_L, qfl_R, qrI_i, qrL_l, qrV_v, qRcv_0, qRcv_s, eq_self, true_and, and_true, true_or, or_true, false_and, and_false, false_or, or_false, ite_true, if_true, if_false, Bool.true_or, Bool.false_or, Bool.or_false, beq_self_eq_true, Bool.false_eq_true, bX2_takeField_0, bX2_takeField_17, bX2_takeField_26, bX2_takeField_53, bX2_takeField_91, bX2_takeField_93, kX2_takeField_0, kX2_takeField_17, kX2_takeField_26, kX2_takeField_53, kX2_takeField_91, kX2_takeField_93, qK_53, qR_53_0, qK_50, qR_53_1, qK_54, qK_54, qR_54_6, qK_55, qR_54_7, qK_56, qR_54_8, qK_57, qR_54_9, qK_58, qR_54_10, qK_59, qR_54_11, qK_60, qR_54_12, qK_61, qR_54_13, qK_62, qR_54_14, qK_63, qR_54_15, qK_64, qR_54_16, qK_65, qK_50, qR_50_0, qK_51, qR_50_13, qK_52]
  rw [h2, eb, qle0, nI_t (show s.1 0 0 < 2147483648 by omega)]
  simp (disch := omega) only [nI_leI, nI_ltI, nI_eq, nI_cl, qin_eq, nI_add, nI_mul, qb_z, qb_t, qb_f, nI_ne0', Nat.reduceAdd, Bool.false_eq_true, if_false, if_true, true_and, and_true, Nat.reduceEqDiff, not_true_eq_false, not_false_eq_true, false_implies, true_implies, ite_true, ite_false, Bool.not_eq_false, Bool.not_eq_true]
  refine ⟨fun g => bad (by rw [e2, g]; rfl), fun g => ⟨fun g2 => ?_, fun g2 => bad (by rw [e2, decide_eq_true (by omega), Bool.or_true])⟩⟩
  have c0 : s.1 0 0 = 0 := by omega
  have ef : s.2.2.1 = false := by rw [e2, g, decide_eq_false (by omega)]; rfl
  rw [ef, if_neg (by decide)] at e0
  refine qV.go 30 [9999] ok_35 ?_
  simp only [qW_nop, qW_iconst, qW_bipush, qW_aloadn, qW_ifeq, qW_ifne, qW_ifle, qW_getf, qW_cv1_0, qW_cv1_2, qW_cv2_0, qW_cv3_0, qW_iret1, qW_putf0, qW_putf3, Nat.reduceAdd, Nat.reduceMul, Nat.reduceBEq, Nat.reduceEqDiff, Nat.reduceLT, Nat.reduceLeDiff, Nat.zero_le, nI_add, nI_mul, nI_cl, qin_eq, qofI, qlg_0, qlg_s, qls_i0, qls_r0, qls_l0, qls_1, qls_2, qkl_i, qkl_r, qkl_l, qkl_n, qIsI_i, qIsL_l, qIsR_r, qint_i, qil_i, qil_r, qil_l, qf4_0, qf4_1, qf4_2, qf4_3, qf2_0, qf2_1, qcs_n, qcs_i, qcs_r, qcs_l, qst_n, qst_c, qJ_0, qJ_st, qJ_go, qfl_I, qfl_Z, qfl_L, qfl_R, qrI_i, qrL_l, qrV_v, qRcv_0, qRcv_s, eq_self, true_and, and_true, true_or, or_true, false_and, and_false, false_or, or_false, ite_true, if_true, if_false, Bool.true_or, Bool.false_or, Bool.or_false, beq_self_eq_true, Bool.false_eq_true, bX2_takeField_0, bX2_takeField_17, bX2_takeField_26, bX2_takeField_53, bX2_takeField_91, bX2_takeField_93, kX2_takeField_0, kX2_takeField_17, kX2_takeField_26, kX2_takeField_53, kX2_takeField_91, kX2_takeField_93, qK_53, qR_53_0, qK_50, qR_53_1, qK_54, qK_54, qR_54_6, qK_55, qR_54_7, qK_56, qR_54_8, qK_57, qR_54_9, qK_58, qR_54_10, qK_59, qR_54_11, qK_60, qR_54_12, qK_61, qR_54_13, qK_62, qR_54_14, qK_63, qR_54_15, qK_64, qR_54_16, qK_65, qK_50, qR_50_0, qK_51, qR_50_13, qK_52]
  have d1 : zXd (qwi σ 53 2 (nI 1)) B n p := h.c (by decide)
  have F1 : zG zPcr zRcr σ (qwi σ 53 2 (nI 1)) := zG.wi (Or.inr (Or.inl ⟨rfl, Or.inl rfl⟩))
  have x1 : zX (qwi σ 53 2 (nI 1)) 54 s.1 := hX.fr fun a j h1 h2 => by rw [qwi_1, if_neg (by omega)]
  have n1 : (qwi σ 53 2 (nI 1)).1 53 2 = qb true := by rw [qwi_1, if_pos ⟨rfl, rfl⟩]; rfl
  have o1 : (qwi σ 53 2 (nI 1)).1 53 3 = qb s.2.2.2 := by rw [qwi_1, if_neg (by decide)]; exact h3
  generalize qwi σ 53 2 (nI 1) = σ1 at d1 F1 x1 n1 o1 ⊢
  refine qBV.of (x_next hB hp d1) (by decide) (fun σ2 g2 => ?_)
  obtain ⟨d2, f2⟩ := g2
  have f2 := zPxs_t f2
  have F2 := F1.tr (zPxt_c f2)
  refine qBI.of (x_takeNum hB ht.2.2.1 d2 (lo := 1) (hi := 6) (by decide) (by decide)) (by decide) (fun v σ3 g3 => ?_)
  obtain ⟨g3, f3⟩ := g3
  have F3 := F2.tr (zPxt_c f3)
  rcases zXo_c g3 with ⟨e, he, rfl, hf⟩ | ⟨a, ha, rfl, d3, t3⟩
  · simp (disch := omega) only [nI_leI, nI_ltI, nI_eq, nI_cl, qin_eq, nI_add, nI_mul, qb_z, qb_t, qb_f, nI_ne0', Nat.reduceAdd, Bool.false_eq_true, if_false, if_true, true_and, and_true, Nat.reduceEqDiff, not_true_eq_false, not_false_eq_true, false_implies, true_implies, ite_true, ite_false]
    exact ⟨zXo_l (by simp only [zpPart, e0, zpField, he, zbd_l, zbd_r]) rfl hf, F3⟩
  · simp (disch := omega) only [nI_leI, nI_ltI, nI_eq, nI_cl, qin_eq, nI_add, nI_mul, qb_z, qb_t, qb_f, nI_ne0', Nat.reduceAdd, Bool.false_eq_true, if_false, if_true, true_and, and_true, Nat.reduceEqDiff, not_true_eq_false, not_false_eq_true, false_implies, true_implies, ite_true, ite_false]
    have s3 := zpN_inr hB ht.2.2.1 ha
    rw [t3]
    have d4 : zXd (qwi σ3 54 0 (nI a.1)) B n a.2 := d3.c (by decide)
    have F4 : zG zPcr zRcr σ (qwi σ3 54 0 (nI a.1)) := F3.tr (zG.wi (Or.inr (Or.inr ⟨by decide, by decide⟩)))
    have x4 : zX (qwi σ3 54 0 (nI a.1)) 54 (zu s.1 0 2 a.1) := ((x1.t zCb_d f2).t zCb_d f3).dim (Or.inl ⟨rfl, rfl⟩) (Or.inl c0)
    have n4 : (qwi σ3 54 0 (nI a.1)).1 53 2 = qb true := by rw [qwi_1, if_neg (by decide), f3.1 _ _ (by unfold zPxt; omega), f2.1 _ _ (by unfold zPxt; omega)]; exact n1
    have o4 : (qwi σ3 54 0 (nI a.1)).1 53 3 = qb s.2.2.2 := by rw [qwi_1, if_neg (by decide), f3.1 _ _ (by unfold zPxt; omega), f2.1 _ _ (by unfold zPxt; omega)]; exact o1
    generalize qwi σ3 54 0 (nI a.1) = σ4 at d4 F4 x4 n4 o4 ⊢
    refine qBI.of (x_takeWord hB s3.2.1 d4 (k := 4) (by decide) rfl) (by decide) (fun v σ5 g5 => ?_)
    obtain ⟨g5, f5⟩ := g5
    have F5 := F4.tr (zPxt_c f5)
    rcases zXo_c g5 with ⟨e, he, rfl, hf⟩ | ⟨q, hq, rfl, d5⟩
    · simp (disch := omega) only [nI_leI, nI_ltI, nI_eq, nI_cl, qin_eq, nI_add, nI_mul, qb_z, qb_t, qb_f, nI_ne0', Nat.reduceAdd, Bool.false_eq_true, if_false, if_true, true_and, and_true, Nat.reduceEqDiff, not_true_eq_false, not_false_eq_true, false_implies, true_implies, ite_true, ite_false]
      exact ⟨zXo_l (by simp only [zpPart, e0, zpField, ha, he, zbd_l, zbd_r]) rfl hf, F5⟩
    · simp (disch := omega) only [nI_leI, nI_ltI, nI_eq, nI_cl, qin_eq, nI_add, nI_mul, qb_z, qb_t, qb_f, nI_ne0', Nat.reduceAdd, Bool.false_eq_true, if_false, if_true, true_and, and_true, Nat.reduceEqDiff, not_true_eq_false, not_false_eq_true, false_implies, true_implies, ite_true, ite_false]
      have s5 := zpK_inr hB s3.2.1 (by decide) hq
      refine qBI.of (x_takeNum hB s5.2 d5 (lo := 1) (hi := 6) (by decide) (by decide)) (by decide) (fun v σ6 g6 => ?_)
      obtain ⟨g6, f6⟩ := g6
      have F6 := F5.tr (zPxt_c f6)
      rcases zXo_c g6 with ⟨e, he, rfl, hf⟩ | ⟨b, hb, rfl, d6, t6⟩
      · simp (disch := omega) only [nI_leI, nI_ltI, nI_eq, nI_cl, qin_eq, nI_add, nI_mul, qb_z, qb_t, qb_f, nI_ne0', Nat.reduceAdd, Bool.false_eq_true, if_false, if_true, true_and, and_true, Nat.reduceEqDiff, not_true_eq_false, not_false_eq_true, false_implies, true_implies, ite_true, ite_false]
        exact ⟨zXo_l (by simp only [zpPart, e0, zpField, ha, hq, he, zbd_l, zbd_r]) rfl hf, F6⟩
      · simp (disch := omega) only [nI_leI, nI_ltI, nI_eq, nI_cl, qin_eq, nI_add, nI_mul, qb_z, qb_t, qb_f, nI_ne0', Nat.reduceAdd, Bool.false_eq_true, if_false, if_true, true_and, and_true, Nat.reduceEqDiff, not_true_eq_false, not_false_eq_true, false_implies, true_implies, ite_true, ite_false]
        have s6 := zpN_inr hB s5.2 hb
        rw [t6]
        have d7 : zXd (qwi σ6 54 1 (nI b.1)) B n b.2 := d6.c (by decide)
        have F7 : zG zPcr zRcr σ (qwi σ6 54 1 (nI b.1)) := F6.tr (zG.wi (Or.inr (Or.inr ⟨by decide, by decide⟩)))
        have x7 : zX (qwi σ6 54 1 (nI b.1)) 54 (zu (zu s.1 0 2 a.1) 0 3 b.1) := ((x4.t zCb_d f5).t zCb_d f6).dim (Or.inr (Or.inl ⟨rfl, rfl⟩)) (Or.inl (by rw [zu_ne (by omega)]; exact c0))
        have n7 : (qwi σ6 54 1 (nI b.1)).1 53 2 = qb true := by rw [qwi_1, if_neg (by decide), f6.1 _ _ (by unfold zPxt; omega), f5.1 _ _ (by unfold zPxt; omega)]; exact n4
        have o7 : (qwi σ6 54 1 (nI b.1)).1 53 3 = qb s.2.2.2 := by rw [qwi_1, if_neg (by decide), f6.1 _ _ (by unfold zPxt; omega), f5.1 _ _ (by unfold zPxt; omega)]; exact o4
        generalize qwi σ6 54 1 (nI b.1) = σ7 at d7 F7 x7 n7 o7 ⊢
        refine qBI.of (x_takeStop hB s6.2.1 d7) (by decide) (fun v σ8 g8 => ?_)
        obtain ⟨g8, f8⟩ := g8
        have F8 := F7.tr (zPxt_c f8)
        rcases zXo_c g8 with ⟨e, he, rfl, hf⟩ | ⟨u, hu, rfl, d8⟩
        · exact ⟨Or.inl rfl, zXo_l (by simp only [zpPart, e0, zpField, ha, hq, hb, he, zbd_l, zbd_r]) rfl hf, F8⟩
        · refine ⟨Or.inr rfl, zXo_r (a := ((zu (zu s.1 0 2 a.1) 0 3 b.1, s.2.1, true, s.2.2.2), u)) (by simp only [zpPart, e0, zpField, ha, hq, hb, hu, zbd_l, zbd_r]) rfl ⟨d8, ?_⟩, F8⟩
          refine (show zXs σ7 (zu (zu s.1 0 2 a.1) 0 3 b.1, s.2.1, true, s.2.2.2) from ⟨x7, fun i hi => ?_, ⟨true, n7, rfl⟩, o7⟩).t f8
          have hi : i < zu (zu s.1 0 2 a.1) 0 3 b.1 0 0 := hi
          rw [zu_ne (by omega), zu_ne (by omega), c0] at hi
          omega
set_option maxRecDepth 20000 in
theorem x_takeOdds {σ : qSg} {B : Nat → Nat} {n p : Nat} {s : zS} (hB : zBW B n) (hp : p ≤ n) (h : zXd σ B n p) (hs : zXs σ s) (hw : zSW s) (hk : tkY B p = 1) : qCI 5 36 [qr 53] σ (zXp B n s p σ) := by
  have wb := hw.1.1
  have ht := tkE_spec hB hp
  have k2 := tkY_w (B := B) (p := p) (by omega)
  obtain ⟨hX, hN, ⟨ft, h2, e2⟩, h3⟩ := id hs
  have e0 : zpPart0 B s p = (if s.2.2.2 = true then .inl (zno B p 5) else zbd (zpN B 0 16 (tkE B p)) fun r => .inr ((zu s.1 0 4 r.1, s.2.1, s.2.2.1, true), r.2)) := by unfold zpPart0; rw [if_neg (by omega), if_pos hk]
  refine qCI.of [some (qr 53)] ok_36 (Nat.le_of_ble_eq_true rfl) rfl ?_
  refine qV.go 30 [9999] ok_36 ?_
  simp only [qW_nop, qW_iconst, qW_bipush, qW_aloadn, qW_ifeq, qW_ifne, qW_getf, qW_cv1_0, qW_cv1_2, qW_cv2_0, qW_cv3_0, qW_iret1, qW_putf0, qW_putf3, Nat.reduceAdd, Nat.reduceMul, Nat.reduceBEq, Nat.reduceEqDiff, Nat.reduceLT, Nat.reduceLeDiff, Nat.zero_le, nI_add, nI_mul, nI_cl, qin_eq, qofI, qlg_0, qlg_s, qls_i0, qls_r0, qls_l0, qls_1, qls_2, qkl_i, qkl_r, qkl_l, qkl_n, qIsI_i, qIsL_l, qIsR_r, qint_i, qil_i, qil_r, qil_l, qf4_0, qf4_1, qf4_2, qf4_3, qf2_0, qf2_1, qcs_n, qcs_i, qcs_r, qcs_l, qst_n, qst_c, qJ_0, qJ_st, qJ_go, qfl_I, qfl_Z, qfl_L, qfl_R, qrI_i, qrL_l, qrV_v, qRcv_0, qRcv_s, eq_self, true_and, and_true, true_or, or_true, false_and, and_false, false_or, or_false, ite_true, if_true, if_false, Bool.true_or, Bool.false_or, Bool.or_false, beq_self_eq_true, Bool.false_eq_true, bX2_takeOdds_0, bX2_takeOdds_16, bX2_takeOdds_43, kX2_takeOdds_0, kX2_takeOdds_16, kX2_takeOdds_43, qK_53, qR_53_0, qK_50, qR_53_1, qK_54, qK_54, qR_54_6, qK_55, qR_54_7, qK_56, qR_54_8, qK_57, qR_54_9, qK_58, qR_54_10, qK_59, qR_54_11, qK_60, qR_54_12, qK_61, qR_54_13, qK_62, qR_54_14, qK_63, qR_54_15, qK_64, qR_54_16, qK_65, qK_50, qR_50_0, qK_51, qR_50_13, qK_52]
  rw [h3]
  simp (disch := omega) only [nI_leI, nI_ltI, nI_eq, nI_cl, qin_eq, nI_add, nI_mul, qb_z, qb_t, qb_f, nI_ne0', Nat.reduceAdd, Bool.false_eq_true, if_false, if_true, true_and, and_true, Nat.reduceEqDiff, not_true_eq_false, not_false_eq_true, false_implies, true_implies, ite_true, ite_false, Bool.not_eq_false, Bool.not_eq_true]
  refine ⟨fun g => ?_, fun g => ?_⟩
  · rw [g, if_neg (by decide)] at e0
    have d1 : zXd (qwi σ 53 3 (nI 1)) B n p := h.c (by decide)
    have F1 : zG zPcr zRcr σ (qwi σ 53 3 (nI 1)) := zG.wi (Or.inr (Or.inl ⟨rfl, Or.inr rfl⟩))
    have x1 : zX (qwi σ 53 3 (nI 1)) 54 s.1 := hX.fr fun a j h1 h2 => by rw [qwi_1, if_neg (by omega)]
    have n1 : (qwi σ 53 3 (nI 1)).1 53 2 = qb ft := by rw [qwi_1, if_neg (by decide)]; exact h2
    have o1 : (qwi σ 53 3 (nI 1)).1 53 3 = qb true := by rw [qwi_1, if_pos ⟨rfl, rfl⟩]; rfl
    have m1 : zXnm (qwi σ 53 3 (nI 1)) 54 (s.1 0 0) s.2.1 := hN
    generalize qwi σ 53 3 (nI 1) = σ1 at d1 F1 x1 n1 o1 m1 ⊢
    refine qBV.of (x_next hB hp d1) (by decide) (fun σ2 g2 => ?_)
    obtain ⟨d2, f2⟩ := g2
    have f2 := zPxs_t f2
    have F2 := F1.tr (zPxt_c f2)
    refine qBI.of (x_takeNum hB ht.2.2.1 d2 (lo := 0) (hi := 16) (by decide) (by decide)) (by decide) (fun v σ3 g3 => ?_)
    obtain ⟨g3, f3⟩ := g3
    have F3 := F2.tr (zPxt_c f3)
    rcases zXo_c g3 with ⟨e, he, rfl, hf⟩ | ⟨a, ha, rfl, d3, t3⟩
    · simp (disch := omega) only [nI_leI, nI_ltI, nI_eq, nI_cl, qin_eq, nI_add, nI_mul, qb_z, qb_t, qb_f, nI_ne0', Nat.reduceAdd, Bool.false_eq_true, if_false, if_true, true_and, and_true, Nat.reduceEqDiff, not_true_eq_false, not_false_eq_true, false_implies, true_implies, ite_true, ite_false]
      exact ⟨zXo_l (by simp only [zpPart, e0, he, zbd_l, zbd_r]) rfl hf, F3⟩
    · simp (disch := omega) only [nI_leI, nI_ltI, nI_eq, nI_cl, qin_eq, nI_add, nI_mul, qb_z, qb_t, qb_f, nI_ne0', Nat.reduceAdd, Bool.false_eq_true, if_false, if_true, true_and, and_true, Nat.reduceEqDiff, not_true_eq_false, not_false_eq_true, false_implies, true_implies, ite_true, ite_false]
      have s3 := zpN_inr hB ht.2.2.1 ha
      rw [t3]
      have d4 : zXd (qwi σ3 54 2 (nI a.1)) B n a.2 := d3.c (by decide)
      have F4 : zG zPcr zRcr σ (qwi σ3 54 2 (nI a.1)) := F3.tr (zG.wi (Or.inr (Or.inr ⟨by decide, by decide⟩)))
      have x4 : zX (qwi σ3 54 2 (nI a.1)) 54 (zu s.1 0 4 a.1) := ((x1.t zCb_d f2).t zCb_d f3).dim (Or.inr (Or.inr ⟨rfl, rfl⟩)) (Or.inr rfl)
      have n4 : (qwi σ3 54 2 (nI a.1)).1 53 2 = qb ft := by rw [qwi_1, if_neg (by decide), f3.1 _ _ (by unfold zPxt; omega), f2.1 _ _ (by unfold zPxt; omega)]; exact n1
      have o4 : (qwi σ3 54 2 (nI a.1)).1 53 3 = qb true := by rw [qwi_1, if_neg (by decide), f3.1 _ _ (by unfold zPxt; omega), f2.1 _ _ (by unfold zPxt; omega)]; exact o1
      have m4 : zXnm (qwi σ3 54 2 (nI a.1)) 54 (s.1 0 0) s.2.1 := show zXnm σ3 54 (s.1 0 0) s.2.1 from (m1.t zCb_d f2).t zCb_d f3
      generalize qwi σ3 54 2 (nI a.1) = σ4 at d4 F4 x4 n4 o4 m4 ⊢
      refine qBI.of (x_takeStop hB s3.2.1 d4) (by decide) (fun v σ8 g8 => ?_)
      obtain ⟨g8, f8⟩ := g8
      have F8 := F4.tr (zPxt_c f8)
      rcases zXo_c g8 with ⟨e, he, rfl, hf⟩ | ⟨u, hu, rfl, d8⟩
      · exact ⟨Or.inl rfl, zXo_l (by simp only [zpPart, e0, ha, he, zbd_l, zbd_r]) rfl hf, F8⟩
      · refine ⟨Or.inr rfl, zXo_r (a := ((zu s.1 0 4 a.1, s.2.1, s.2.2.1, true), u)) (by simp only [zpPart, e0, ha, hu, zbd_l, zbd_r]) rfl ⟨d8, ?_⟩, F8⟩
        have c00 : zu s.1 0 4 a.1 0 0 = s.1 0 0 := zu_ne (by omega)
        refine (show zXs σ4 (zu s.1 0 4 a.1, s.2.1, s.2.2.1, true) from ⟨x4, ?_, ⟨ft, n4, ?_⟩, o4⟩).t f8
        · show zXnm σ4 54 (zu s.1 0 4 a.1 0 0) s.2.1
          rw [c00]; exact m4
        · show s.2.2.1 = (ft || decide (0 < zu s.1 0 4 a.1 0 0))
          rw [c00]; exact e2
  · refine qBI.of (x_fail h 5) (by decide) (fun v σ1 g1 => ?_)
    obtain ⟨rfl, g1, g2⟩ := g1
    refine ⟨Or.inl rfl, zXo_l (e := zno B p 5) (by unfold zpPart; rw [e0, if_pos g]; rfl) rfl ?_, zPxt_c g2⟩
    rw [zno_ne (by omega)]
    exact g1
set_option maxRecDepth 20000 in
theorem x_perhaps {σ : qSg} {B : Nat → Nat} {n p : Nat} (hB : zBW B n) (hp : p ≤ n) (h : zXd σ B n p) {k d v : Nat} (hk : k < 22) (hv : v = zkn k) : qCI 5 38 [qr 53, qi (nI v), qi (nI d)] σ (fun x σ' => (match zpP B k d p with | .inl e => x = iI (-1) ∧ zXe σ' e | .inr a => x = nI a.1 ∧ zXd σ' B n a.2) ∧ zG zPxt zRxt σ σ') := by
  subst hv
  have ht := tkE_spec hB hp
  refine qCI.of [some (qr 53), some (qi (nI (zkn k))), some (qi (nI d))] ok_38 (Nat.le_of_ble_eq_true rfl) rfl ?_
  refine qV.go 30 [9999] ok_38 ?_
  simp only [qW_nop, qW_iconst, qW_iconstm, qW_bipush, qW_iloadn, qW_aloadn, qW_ifeq, qW_iceq, qW_goto, qW_getf, qW_cv1_2, qW_cv3_0, qW_iret0, Nat.reduceAdd, Nat.reduceMul, Nat.reduceBEq, Nat.reduceEqDiff, Nat.reduceLT, Nat.reduceLeDiff, Nat.zero_le, nI_add, nI_mul, nI_cl, qin_eq, qofI, qlg_0, qlg_s, qls_i0, qls_r0, qls_l0, qls_1, qls_2, qkl_i, qkl_r, qkl_l, qkl_n, qIsI_i, qIsL_l, qIsR_r, qint_i, qil_i, qil_r, qil_l, qf4_0, qf4_1, qf4_2, qf4_3, qf2_0, qf2_1, qcs_n, qcs_i, qcs_r, qcs_l, qst_n, qst_c, qJ_0, qJ_st, qJ_go, qfl_I, qfl_Z, qfl_L, qfl_R, qrI_i, qrL_l, qrV_v, qRcv_0, qRcv_s, eq_self, true_and, and_true, true_or, or_true, false_and, and_false, false_or, or_false, ite_true, if_true, if_false, Bool.true_or, Bool.false_or, Bool.or_false, beq_self_eq_true, Bool.false_eq_true, bX2_takePerhaps_0, bX2_takePerhaps_13, bX2_takePerhaps_43, bX2_takePerhaps_44, kX2_takePerhaps_0, kX2_takePerhaps_13, kX2_takePerhaps_43, kX2_takePerhaps_44, qK_53, qR_53_0, qK_50, qR_53_1, qK_54, qK_50, qR_50_0, qK_51, qR_50_13, qK_52]
  rw [h.1.2.2.2.2.1, zkc_eq (tkY_le B p) hk]
  unfold zpP
  refine ⟨fun g => ?_, fun g => ?_⟩
  · rw [if_pos g]
    refine qBV.of (x_next hB hp h) (by decide) (fun σ1 g1 => ?_)
    refine qBI.of (x_takeNum hB ht.2.2.1 g1.1 (lo := 0) (hi := 9) (by decide) (by decide)) (by decide) (fun r σ2 g2 => ?_)
    obtain ⟨g2, f2⟩ := g2
    have F2 := (zPxs_t g1.2).tr f2
    rcases zXo_c g2 with ⟨e, he, rfl, hf⟩ | ⟨a, ha, rfl, a1, a2⟩
    · simp (disch := omega) only [nI_leI, nI_ltI, nI_eq, nI_cl, qin_eq, nI_add, nI_mul, qb_z, qb_t, qb_f, nI_ne0', Nat.reduceAdd, Bool.false_eq_true, if_false, if_true, true_and, and_true, Nat.reduceEqDiff, not_true_eq_false, not_false_eq_true, false_implies, true_implies, ite_true, ite_false]
      rw [he]
      exact ⟨hf, F2⟩
    · simp (disch := omega) only [nI_leI, nI_ltI, nI_eq, nI_cl, qin_eq, nI_add, nI_mul, qb_z, qb_t, qb_f, nI_ne0', Nat.reduceAdd, Bool.false_eq_true, if_false, if_true, true_and, and_true, Nat.reduceEqDiff, not_true_eq_false, not_false_eq_true, false_implies, true_implies, ite_true, ite_false]
      rw [ha, a2]
      exact ⟨⟨rfl, a1⟩, F2⟩
  · rw [if_neg g]
    exact ⟨⟨rfl, h⟩, zG.rf⟩
