/-! the class: new quarrels and boys, dawns, copies -/
theorem qW_cpyI {d : Nat} {J : Nat → qLo → List qPV → qSg → Prop} {Q : qQ} (is : List qIns) (l : Nat) (lo : qLo) (st : List qPV) (σ : qSg) (n : Nat) (h : Nat) (z : Int32) (a : Nat) (b : Nat) (i : Int32) (j : Int32) (ha : (qKd a).1 = 0) (hb : (qKd b).1 = 0) : qW d J Q ((.invokestatic n, l, [h]) :: is) lo (.inl z :: .inl j :: .inr (.inr (some b)) :: .inl i :: .inr (.inr (some a)) :: st) σ = ((0 < (qKd a).2 ∧ 0 < (qKd b).2) ∧ qrg i z (qKd a).2 ∧ qrg j z (qKd b).2 ∧ qcs st ≤ 8 ∧ 0 < d ∧ qW d J Q is lo st (qci σ a i.toNatClampNeg b j.toNatClampNeg z.toNatClampNeg)) := by
  rw [qW_cpy, ha, hb]
  simp
theorem qW_cpyL {d : Nat} {J : Nat → qLo → List qPV → qSg → Prop} {Q : qQ} (is : List qIns) (l : Nat) (lo : qLo) (st : List qPV) (σ : qSg) (n : Nat) (h : Nat) (z : Int32) (a : Nat) (b : Nat) (i : Int32) (j : Int32) (ha : (qKd a).1 = 1) (hb : (qKd b).1 = 1) : qW d J Q ((.invokestatic n, l, [h]) :: is) lo (.inl z :: .inl j :: .inr (.inr (some b)) :: .inl i :: .inr (.inr (some a)) :: st) σ = ((0 < (qKd a).2 ∧ 0 < (qKd b).2) ∧ qrg i z (qKd a).2 ∧ qrg j z (qKd b).2 ∧ qcs st ≤ 8 ∧ 0 < d ∧ qW d J Q is lo st (qcl σ a i.toNatClampNeg b j.toNatClampNeg z.toNatClampNeg)) := by
  rw [qW_cpy, ha, hb]
  simp
theorem qrg_n {i z n : Nat} (h : i + z ≤ n) (hn : n < 2147483648) : qrg (nI i) (nI z) n := by
  unfold qrg
  rw [nI_cl (by omega), nI_cl (by omega), qlt0, qlt0, nI_t (by omega), nI_t (by omega)]
  omega
theorem qrg_8 : qrg (nI 0) (nI 8) 8 = True := eq_true (qrg_n (by decide) (by decide))
theorem qrg_10 : qrg (nI 0) (nI 10) 10 = True := eq_true (qrg_n (by decide) (by decide))
theorem qrg_60 : qrg (nI 0) (nI 60) 60 = True := eq_true (qrg_n (by decide) (by decide))
set_option maxRecDepth 20000 in
theorem x_addQuarrel {σ : qSg} {r : Nat} {C : zC} (hr : zCb r) (h : zX σ r C) (hw : zW C) {a b g : Nat} : qCI 1 15 [qr r, qi (nI a), qi (nI b), qi (nI g)] σ (fun v σ' => if C 0 1 = 10 then v = iI (-1) ∧ σ' = σ else v = nI (C 0 1) ∧ zX σ' r (zboot C a b g) ∧ zF (zXf r) σ σ') := by
  have wq := hw.2.1
  refine qCI.of [some (qr r), some (qi (nI a)), some (qi (nI b)), some (qi (nI g)), none] ok_15 (Nat.le_of_ble_eq_true rfl) rfl ?_
  refine qV.go 30 [16, 18] ok_15 ?_
  simp only [qW_nop, qW_iconst, qW_iconstm, qW_bipush, qW_iloadn, qW_iload, qW_aloadn, qW_istore, qW_iadd, qW_dup, qW_iflt, qW_iclt, qW_getf, qW_iast, qW_iret0, qW_putf0, Nat.reduceAdd, Nat.reduceMul, Nat.reduceBEq, Nat.reduceEqDiff, Nat.reduceLT, Nat.reduceLeDiff, Nat.zero_le, nI_add, nI_mul, nI_cl, qin_eq, qofI, qlg_0, qlg_s, qls_i0, qls_r0, qls_l0, qls_1, qls_2, qkl_i, qkl_r, qkl_l, qkl_n, qIsI_i, qIsL_l, qIsR_r, qint_i, qil_i, qil_r, qil_l, qf4_0, qf4_1, qf4_2, qf4_3, qf2_0, qf2_1, qcs_n, qcs_i, qcs_r, qcs_l, qst_n, qst_c, qJ_0, qJ_st, qJ_go, qfl_I, qfl_Z, qfl_L, qfl_R, qrI_i, qrL_l, qrV_v, qRcv_0, qRcv_s, eq_self, true_and, and_true, true_or, or_true, false_and, and_false, false_or, or_false, ite_true, if_true, if_false, Bool.true_or, Bool.false_or, Bool.or_false, beq_self_eq_true, Bool.false_eq_true, bX1_addQuarrel_0, bX1_addQuarrel_16, bX1_addQuarrel_18, kX1_addQuarrel_0, kX1_addQuarrel_16, kX1_addQuarrel_18, zCb_k hr, zCb_6 hr, zCb_7 hr, zCb_8 hr, zCb_9 hr, zCb_10 hr, zCb_11 hr, zCb_12 hr, zCb_13 hr, zCb_14 hr, zCb_15 hr, zCb_16 hr, zCb_a1 hr, zCb_a2 hr, zCb_a3 hr, zCb_a4 hr, zCb_a5 hr, zCb_a6 hr, zCb_a7 hr, zCb_a8 hr, zCb_a9 hr, zCb_a10 hr, zCb_a11 hr]
  rw [h.1.q]
  simp only [z0i, qlt, qle, nI_t (show C 0 1 < 2147483648 by omega), nI_t (show 10 < 2147483648 by decide)]
  refine ⟨fun hh => by omega, fun _ => ⟨fun g1 => ?_, fun g1 => ?_⟩⟩
  · refine qV.go 30 [9999] ok_15 ?_
    simp only [qW_nop, qW_iconst, qW_iconstm, qW_bipush, qW_iloadn, qW_iload, qW_aloadn, qW_istore, qW_iadd, qW_dup, qW_iflt, qW_iclt, qW_getf, qW_iast, qW_iret0, qW_putf0, Nat.reduceAdd, Nat.reduceMul, Nat.reduceBEq, Nat.reduceEqDiff, Nat.reduceLT, Nat.reduceLeDiff, Nat.zero_le, nI_add, nI_mul, nI_cl, qin_eq, qofI, qlg_0, qlg_s, qls_i0, qls_r0, qls_l0, qls_1, qls_2, qkl_i, qkl_r, qkl_l, qkl_n, qIsI_i, qIsL_l, qIsR_r, qint_i, qil_i, qil_r, qil_l, qf4_0, qf4_1, qf4_2, qf4_3, qf2_0, qf2_1, qcs_n, qcs_i, qcs_r, qcs_l, qst_n, qst_c, qJ_0, qJ_st, qJ_go, qfl_I, qfl_Z, qfl_L, qfl_R, qrI_i, qrL_l, qrV_v, qRcv_0, qRcv_s, eq_self, true_and, and_true, true_or, or_true, false_and, and_false, false_or, or_false, ite_true, if_true, if_false, Bool.true_or, Bool.false_or, Bool.or_false, beq_self_eq_true, Bool.false_eq_true, bX1_addQuarrel_0, bX1_addQuarrel_16, bX1_addQuarrel_18, kX1_addQuarrel_0, kX1_addQuarrel_16, kX1_addQuarrel_18, zCb_k hr, zCb_6 hr, zCb_7 hr, zCb_8 hr, zCb_9 hr, zCb_10 hr, zCb_11 hr, zCb_12 hr, zCb_13 hr, zCb_14 hr, zCb_15 hr, zCb_16 hr, zCb_a1 hr, zCb_a2 hr, zCb_a3 hr, zCb_a4 hr, zCb_a5 hr, zCb_a6 hr, zCb_a7 hr, zCb_a8 hr, zCb_a9 hr, zCb_a10 hr, zCb_a11 hr]
    rw [h.1.q]
    simp (disch := omega) only [nI_leI, nI_ltI, nI_eq, nI_cl, qin_eq, nI_add, nI_mul, qb_z, qb_t, qb_f, nI_ne0', Nat.reduceAdd, Bool.false_eq_true, if_false, if_true, true_and, and_true, Nat.reduceEqDiff, not_true_eq_false, not_false_eq_true, false_implies, true_implies, ite_true, ite_false]
    rw [if_neg (by omega)]
    have h5 : ∀ v1 v2 v3 v4, (qwi (qwi (qwi (qwi σ (r + 8) (C 0 1) v1) (r + 9) (C 0 1) v2) (r + 10) (C 0 1) v3) (r + 11) (C 0 1) v4).1 r 5 = nI (C 0 1) := fun v1 v2 v3 v4 => by
      rw [qwi_1, if_neg (by omega), qwi_1, if_neg (by omega), qwi_1, if_neg (by omega), qwi_1, if_neg (by omega)]
      exact h.1.q
    rw [h5]
    simp only [nI_add]
    have x4 := (((h.uq (f := 0) (q := C 0 1) (v := a) (by decide)).uq (f := 1) (q := C 0 1) (v := b) (by decide)).uq (f := 2) (q := C 0 1) (v := g) (by decide)).uq (f := 3) (q := C 0 1) (v := 0) (by decide)
    have x5 := x4.nq (v := C 0 1 + 1) (fun q hq f hf => by
      by_cases e : q = C 0 1
      · subst e
        rcases (show f = 0 ∨ f = 1 ∨ f = 2 ∨ f = 3 by omega) with rfl | rfl | rfl | rfl
        · rw [qwi_1, if_neg (by omega), qwi_1, if_neg (by omega), qwi_1, if_neg (by omega), qwi_1, if_pos ⟨rfl, rfl⟩, zu_ne (by omega), zu_ne (by omega), zu_ne (by omega), zu_eq]
        · rw [qwi_1, if_neg (by omega), qwi_1, if_neg (by omega), qwi_1, if_pos ⟨rfl, rfl⟩, zu_ne (by omega), zu_ne (by omega), zu_eq]
        · rw [qwi_1, if_neg (by omega), qwi_1, if_pos ⟨rfl, rfl⟩, zu_ne (by omega), zu_eq]
        · rw [qwi_1, if_pos ⟨rfl, rfl⟩, zu_eq]
      · exact x4.1.2.2 q (by rw [zu_ne (by omega), zu_ne (by omega), zu_ne (by omega), zu_ne (by omega)]; omega) f hf)
    refine ⟨x5, ?_⟩
    exact ((((zF.wi ⟨by omega, by omega⟩).tr (zF.wi ⟨by omega, by omega⟩)).tr (zF.wi ⟨by omega, by omega⟩)).tr (zF.wi ⟨by omega, by omega⟩)).tr (zF.wi ⟨by omega, by omega⟩)
  · refine qV.go 30 [9999] ok_15 ?_
    simp only [qW_nop, qW_iconst, qW_iconstm, qW_bipush, qW_iloadn, qW_iload, qW_aloadn, qW_istore, qW_iadd, qW_dup, qW_iflt, qW_iclt, qW_getf, qW_iast, qW_iret0, qW_putf0, Nat.reduceAdd, Nat.reduceMul, Nat.reduceBEq, Nat.reduceEqDiff, Nat.reduceLT, Nat.reduceLeDiff, Nat.zero_le, nI_add, nI_mul, nI_cl, qin_eq, qofI, qlg_0, qlg_s, qls_i0, qls_r0, qls_l0, qls_1, qls_2, qkl_i, qkl_r, qkl_l, qkl_n, qIsI_i, qIsL_l, qIsR_r, qint_i, qil_i, qil_r, qil_l, qf4_0, qf4_1, qf4_2, qf4_3, qf2_0, qf2_1, qcs_n, qcs_i, qcs_r, qcs_l, qst_n, qst_c, qJ_0, qJ_st, qJ_go, qfl_I, qfl_Z, qfl_L, qfl_R, qrI_i, qrL_l, qrV_v, qRcv_0, qRcv_s, eq_self, true_and, and_true, true_or, or_true, false_and, and_false, false_or, or_false, ite_true, if_true, if_false, Bool.true_or, Bool.false_or, Bool.or_false, beq_self_eq_true, Bool.false_eq_true, bX1_addQuarrel_0, bX1_addQuarrel_16, bX1_addQuarrel_18, kX1_addQuarrel_0, kX1_addQuarrel_16, kX1_addQuarrel_18, zCb_k hr, zCb_6 hr, zCb_7 hr, zCb_8 hr, zCb_9 hr, zCb_10 hr, zCb_11 hr, zCb_12 hr, zCb_13 hr, zCb_14 hr, zCb_15 hr, zCb_16 hr, zCb_a1 hr, zCb_a2 hr, zCb_a3 hr, zCb_a4 hr, zCb_a5 hr, zCb_a6 hr, zCb_a7 hr, zCb_a8 hr, zCb_a9 hr, zCb_a10 hr, zCb_a11 hr]
    rw [if_pos (by omega)]
    trivial
set_option maxRecDepth 20000 in
theorem x_place {σ : qSg} {r : Nat} {C : zC} (hr : zCb r) (h : zX0 σ r C) (hw : zW C) {b c : Nat} (hb : b < C 0 0) (hc : c < C 0 2 * C 0 3) : qCV 4 16 [qr r, qi (nI b), qi (nI c)] σ (fun σ' => zX σ' r (zu C 1 b c) ∧ zF (zXf r) σ σ') := by
  have wb := hw.1
  refine qCV.of [some (qr r), some (qi (nI b)), some (qi (nI c))] ok_16 (Nat.le_of_ble_eq_true rfl) rfl ?_
  refine qV.go 30 [9999] ok_16 ?_
  simp only [qW_nop, qW_iloadn, qW_aloadn, qW_ifeq, qW_getf, qW_iast, qW_vret, qW_cv1_2, qW_cv2_0, Nat.reduceAdd, Nat.reduceMul, Nat.reduceBEq, Nat.reduceEqDiff, Nat.reduceLT, Nat.reduceLeDiff, Nat.zero_le, nI_add, nI_mul, nI_cl, qin_eq, qofI, qlg_0, qlg_s, qls_i0, qls_r0, qls_l0, qls_1, qls_2, qkl_i, qkl_r, qkl_l, qkl_n, qIsI_i, qIsL_l, qIsR_r, qint_i, qil_i, qil_r, qil_l, qf4_0, qf4_1, qf4_2, qf4_3, qf2_0, qf2_1, qcs_n, qcs_i, qcs_r, qcs_l, qst_n, qst_c, qJ_0, qJ_st, qJ_go, qfl_I, qfl_Z, qfl_L, qfl_R, qrI_i, qrL_l, qrV_v, qRcv_0, qRcv_s, eq_self, true_and, and_true, true_or, or_true, false_and, and_false, false_or, or_false, ite_true, if_true, if_false, Bool.true_or, Bool.false_or, Bool.or_false, beq_self_eq_true, Bool.false_eq_true, bX1_place_0, bX1_place_19, kX1_place_0, kX1_place_19, zCb_k hr, zCb_6 hr, zCb_7 hr, zCb_8 hr, zCb_9 hr, zCb_10 hr, zCb_11 hr, zCb_12 hr, zCb_13 hr, zCb_14 hr, zCb_15 hr, zCb_16 hr, zCb_a1 hr, zCb_a2 hr, zCb_a3 hr, zCb_a4 hr, zCb_a5 hr, zCb_a6 hr, zCb_a7 hr, zCb_a8 hr, zCb_a9 hr, zCb_a10 hr, zCb_a11 hr]
  refine qBI.fn (x_hasBoy hr h hw _) (by decide) ?_
  rw [zrg_k hb (by omega)]
  simp (disch := omega) only [nI_leI, nI_ltI, nI_eq, nI_cl, qin_eq, nI_add, nI_mul, qb_z, qb_t, qb_f, nI_ne0', Nat.reduceAdd, Bool.false_eq_true, if_false, if_true, true_and, and_true, Nat.reduceEqDiff, not_true_eq_false, not_false_eq_true, false_implies, true_implies, ite_true, ite_false]
  have x1 := h.ub (f := 0) (b := b) (v := c) (by decide)
  refine qBV.of (x_listen hr x1 (zu1_W hw hc)) (by decide) (fun σ2 g => ?_)
  exact ⟨g.1, (zF.wi ⟨by omega, by omega⟩).tr (g.2.wk fun a j hh => by unfold zXf; omega)⟩
set_option maxRecDepth 20000 in
theorem x_tune {σ : qSg} {r : Nat} {C : zC} (hr : zCb r) (h : zX0 σ r C) (hw : zW C) {b c : Nat} (hb : b < C 0 0) (hc : c ≤ 9) : qCV 4 17 [qr r, qi (nI b), qi (nI c)] σ (fun σ' => zX σ' r (zu C 4 b c) ∧ zF (zXf r) σ σ') := by
  have wb := hw.1
  refine qCV.of [some (qr r), some (qi (nI b)), some (qi (nI c))] ok_17 (Nat.le_of_ble_eq_true rfl) rfl ?_
  refine qV.go 30 [9999] ok_17 ?_
  simp only [qW_nop, qW_iloadn, qW_aloadn, qW_ifeq, qW_getf, qW_iast, qW_vret, qW_cv1_2, qW_cv2_0, Nat.reduceAdd, Nat.reduceMul, Nat.reduceBEq, Nat.reduceEqDiff, Nat.reduceLT, Nat.reduceLeDiff, Nat.zero_le, nI_add, nI_mul, nI_cl, qin_eq, qofI, qlg_0, qlg_s, qls_i0, qls_r0, qls_l0, qls_1, qls_2, qkl_i, qkl_r, qkl_l, qkl_n, qIsI_i, qIsL_l, qIsR_r, qint_i, qil_i, qil_r, qil_l, qf4_0, qf4_1, qf4_2, qf4_3, qf2_0, qf2_1, qcs_n, qcs_i, qcs_r, qcs_l, qst_n, qst_c, qJ_0, qJ_st, qJ_go, qfl_I, qfl_Z, qfl_L, qfl_R, qrI_i, qrL_l, qrV_v, qRcv_0, qRcv_s, eq_self, true_and, and_true, true_or, or_true, false_and, and_false, false_or, or_false, ite_true, if_true, if_false, Bool.true_or, Bool.false_or, Bool.or_false, beq_self_eq_true, Bool.false_eq_true, bX1_tune_0, bX1_tune_19, kX1_tune_0, kX1_tune_19, zCb_k hr, zCb_6 hr, zCb_7 hr, zCb_8 hr, zCb_9 hr, zCb_10 hr, zCb_11 hr, zCb_12 hr, zCb_13 hr, zCb_14 hr, zCb_15 hr, zCb_16 hr, zCb_a1 hr, zCb_a2 hr, zCb_a3 hr, zCb_a4 hr, zCb_a5 hr, zCb_a6 hr, zCb_a7 hr, zCb_a8 hr, zCb_a9 hr, zCb_a10 hr, zCb_a11 hr]
  refine qBI.fn (x_hasBoy hr h hw _) (by decide) ?_
  rw [zrg_k hb (by omega)]
  simp (disch := omega) only [nI_leI, nI_ltI, nI_eq, nI_cl, qin_eq, nI_add, nI_mul, qb_z, qb_t, qb_f, nI_ne0', Nat.reduceAdd, Bool.false_eq_true, if_false, if_true, true_and, and_true, Nat.reduceEqDiff, not_true_eq_false, not_false_eq_true, false_implies, true_implies, ite_true, ite_false]
  have x1 := h.ub (f := 3) (b := b) (v := c) (by decide)
  refine qBV.of (x_listen hr x1 (zut_W (f := 4) hw (by omega) (fun hh => by omega) (fun _ => hc))) (by decide) (fun σ2 g => ?_)
  exact ⟨g.1, (zF.wi ⟨by omega, by omega⟩).tr (g.2.wk fun a j hh => by unfold zXf; omega)⟩
def zXn (r a j : Nat) (k : Nat) : Prop := a = r + 1 ∧ j = k
set_option maxRecDepth 20000 in
theorem x_addBoy {σ : qSg} {r : Nat} {C : zC} (hr : zCb r) (h : zX0 σ r C) (hw : zW C) (hb : C 0 0 < 8) (nm : Int64) {c p s e : Nat} (hc : c < C 0 2 * C 0 3) (h1 : 1 ≤ p) (h2 : p ≤ 30) (hs : s ≤ 9) (he : e ≤ 9) : qCI 4 14 [qr r, ql nm, qi (nI c), qi (nI p), qi (nI s), qi (nI e)] σ (fun v σ' => v = nI (C 0 0) ∧ zX σ' r (zcome C c p s e) ∧ σ'.2 (r + 1) (C 0 0) = nm ∧ zG (zXf r) (fun a j => zXn r a j (C 0 0)) σ σ') := by
  have wb := hw.1
  refine qCI.of [some (qr r), some (ql nm), none, some (qi (nI c)), some (qi (nI p)), some (qi (nI s)), some (qi (nI e)), none] ok_14 (Nat.le_of_ble_eq_true rfl) rfl ?_
  refine qV.go 30 [16, 18] ok_14 ?_
  simp only [qW_nop, qW_iconst, qW_iconstm, qW_bipush, qW_iloadn, qW_iload, qW_lloadn, qW_aloadn, qW_istore, qW_iadd, qW_dup, qW_iflt, qW_iclt, qW_getf, qW_iast, qW_last, qW_cv1_2, qW_iret0, qW_putf0, Nat.reduceAdd, Nat.reduceMul, Nat.reduceBEq, Nat.reduceEqDiff, Nat.reduceLT, Nat.reduceLeDiff, Nat.zero_le, nI_add, nI_mul, nI_cl, qin_eq, qofI, qlg_0, qlg_s, qls_i0, qls_r0, qls_l0, qls_1, qls_2, qkl_i, qkl_r, qkl_l, qkl_n, qIsI_i, qIsL_l, qIsR_r, qint_i, qil_i, qil_r, qil_l, qf4_0, qf4_1, qf4_2, qf4_3, qf2_0, qf2_1, qcs_n, qcs_i, qcs_r, qcs_l, qst_n, qst_c, qJ_0, qJ_st, qJ_go, qfl_I, qfl_Z, qfl_L, qfl_R, qrI_i, qrL_l, qrV_v, qRcv_0, qRcv_s, eq_self, true_and, and_true, true_or, or_true, false_and, and_false, false_or, or_false, ite_true, if_true, if_false, Bool.true_or, Bool.false_or, Bool.or_false, beq_self_eq_true, Bool.false_eq_true, bX1_addBoy_0, bX1_addBoy_16, bX1_addBoy_18, kX1_addBoy_0, kX1_addBoy_16, kX1_addBoy_18, zCb_k hr, zCb_6 hr, zCb_7 hr, zCb_8 hr, zCb_9 hr, zCb_10 hr, zCb_11 hr, zCb_12 hr, zCb_13 hr, zCb_14 hr, zCb_15 hr, zCb_16 hr, zCb_a1 hr, zCb_a2 hr, zCb_a3 hr, zCb_a4 hr, zCb_a5 hr, zCb_a6 hr, zCb_a7 hr, zCb_a8 hr, zCb_a9 hr, zCb_a10 hr, zCb_a11 hr]
  rw [h.b]
  simp only [z0i, qlt, qle, nI_t (show C 0 0 < 2147483648 by omega), nI_t (show 8 < 2147483648 by decide)]
  refine ⟨fun hh => by omega, fun _ => ⟨fun g1 => ?_, fun g1 => by omega⟩⟩
  refine qV.go 30 [9999] ok_14 ?_
  simp only [qW_nop, qW_iconst, qW_iconstm, qW_bipush, qW_iloadn, qW_iload, qW_lloadn, qW_aloadn, qW_istore, qW_iadd, qW_dup, qW_iflt, qW_iclt, qW_getf, qW_iast, qW_last, qW_cv1_2, qW_iret0, qW_putf0, Nat.reduceAdd, Nat.reduceMul, Nat.reduceBEq, Nat.reduceEqDiff, Nat.reduceLT, Nat.reduceLeDiff, Nat.zero_le, nI_add, nI_mul, nI_cl, qin_eq, qofI, qlg_0, qlg_s, qls_i0, qls_r0, qls_l0, qls_1, qls_2, qkl_i, qkl_r, qkl_l, qkl_n, qIsI_i, qIsL_l, qIsR_r, qint_i, qil_i, qil_r, qil_l, qf4_0, qf4_1, qf4_2, qf4_3, qf2_0, qf2_1, qcs_n, qcs_i, qcs_r, qcs_l, qst_n, qst_c, qJ_0, qJ_st, qJ_go, qfl_I, qfl_Z, qfl_L, qfl_R, qrI_i, qrL_l, qrV_v, qRcv_0, qRcv_s, eq_self, true_and, and_true, true_or, or_true, false_and, and_false, false_or, or_false, ite_true, if_true, if_false, Bool.true_or, Bool.false_or, Bool.or_false, beq_self_eq_true, Bool.false_eq_true, bX1_addBoy_0, bX1_addBoy_16, bX1_addBoy_18, kX1_addBoy_0, kX1_addBoy_16, kX1_addBoy_18, zCb_k hr, zCb_6 hr, zCb_7 hr, zCb_8 hr, zCb_9 hr, zCb_10 hr, zCb_11 hr, zCb_12 hr, zCb_13 hr, zCb_14 hr, zCb_15 hr, zCb_16 hr, zCb_a1 hr, zCb_a2 hr, zCb_a3 hr, zCb_a4 hr, zCb_a5 hr, zCb_a6 hr, zCb_a7 hr, zCb_a8 hr, zCb_a9 hr, zCb_a10 hr, zCb_a11 hr]
  rw [h.b]
  simp (disch := omega) only [nI_leI, nI_ltI, nI_eq, nI_cl, qin_eq, nI_add, nI_mul, qb_z, qb_t, qb_f, nI_ne0', Nat.reduceAdd, Bool.false_eq_true, if_false, if_true, true_and, and_true, Nat.reduceEqDiff, not_true_eq_false, not_false_eq_true, false_implies, true_implies, ite_true, ite_false]
  have h0 : zX0 (qwl σ (r + 1) (C 0 0) nm) r C := h
  have h5 : ∀ v1 v2 v3 v4 v5, (qwi (qwi (qwi (qwi (qwi (qwl σ (r + 1) (C 0 0) nm) (r + 2) (C 0 0) v1) (r + 3) (C 0 0) v2) (r + 4) (C 0 0) v3) (r + 5) (C 0 0) v4) (r + 6) (C 0 0) v5).1 r 4 = nI (C 0 0) := fun v1 v2 v3 v4 v5 => by
    rw [qwi_1, if_neg (by omega), qwi_1, if_neg (by omega), qwi_1, if_neg (by omega), qwi_1, if_neg (by omega), qwi_1, if_neg (by omega)]
    exact h0.b
  rw [h5]
  simp only [nI_add]
  have x4 := ((((h0.ub (f := 0) (b := C 0 0) (v := c) (by decide)).ub (f := 1) (b := C 0 0) (v := p) (by decide)).ub (f := 2) (b := C 0 0) (v := s) (by decide)).ub (f := 3) (b := C 0 0) (v := e) (by decide)).ub (f := 4) (b := C 0 0) (v := 0) (by decide)
  have x5 := x4.nb (v := C 0 0 + 1) (fun q hq f hf => by
    by_cases e : q = C 0 0
    · subst e
      rcases (show f = 0 ∨ f = 1 ∨ f = 2 ∨ f = 3 ∨ f = 4 by omega) with rfl | rfl | rfl | rfl | rfl
      · rw [qwi_1, if_neg (by omega), qwi_1, if_neg (by omega), qwi_1, if_neg (by omega), qwi_1, if_neg (by omega), qwi_1, if_pos ⟨rfl, rfl⟩, zu_ne (by omega), zu_ne (by omega), zu_ne (by omega), zu_ne (by omega), zu_eq]
      · rw [qwi_1, if_neg (by omega), qwi_1, if_neg (by omega), qwi_1, if_neg (by omega), qwi_1, if_pos ⟨rfl, rfl⟩, zu_ne (by omega), zu_ne (by omega), zu_ne (by omega), zu_eq]
      · rw [qwi_1, if_neg (by omega), qwi_1, if_neg (by omega), qwi_1, if_pos ⟨rfl, rfl⟩, zu_ne (by omega), zu_ne (by omega), zu_eq]
      · rw [qwi_1, if_neg (by omega), qwi_1, if_pos ⟨rfl, rfl⟩, zu_ne (by omega), zu_eq]
      · rw [qwi_1, if_pos ⟨rfl, rfl⟩, zu_eq]
    · exact x4.2.1 q (by rw [zu_ne (by omega), zu_ne (by omega), zu_ne (by omega), zu_ne (by omega), zu_ne (by omega)]; omega) f hf)
  refine qBV.of (x_listen hr x5 (zcome_W hw hb hc h1 h2 hs he)) (by decide) (fun σ2 g => ?_)
  refine ⟨g.1, ?_, ?_⟩
  · rw [g.2.2]
    simp only [qwi_2]
    rw [qwl_2, if_pos ⟨rfl, rfl⟩]
  · refine zG.tr (σ1 := qwl σ (r + 1) (C 0 0) nm) (zG.wl ⟨rfl, rfl⟩) ?_
    refine zG.tr ?_ (g.2.g fun a j hh => by unfold zXf; omega)
    exact (((((zG.wi ⟨by omega, by omega⟩).tr (zG.wi ⟨by omega, by omega⟩)).tr (zG.wi ⟨by omega, by omega⟩)).tr (zG.wi ⟨by omega, by omega⟩)).tr (zG.wi ⟨by omega, by omega⟩)).tr (zG.wi ⟨by omega, by omega⟩)
theorem zrow_u (C : zC) (l q : Nat) : zu (zu (zu (zu C 6 l (C 6 q)) 7 l (C 7 q)) 8 l (C 8 q)) 9 l (C 9 q) = zrow C l q := by
  funext f i
  unfold zu zrow
  by_cases h : 6 ≤ f ∧ f ≤ 9 ∧ i = l
  · rw [if_pos h]
    obtain ⟨h1, h2, rfl⟩ := h
    rcases (show f = 6 ∨ f = 7 ∨ f = 8 ∨ f = 9 by omega) with rfl | rfl | rfl | rfl <;> simp
  · rw [if_neg h, if_neg (by omega), if_neg (by omega), if_neg (by omega), if_neg (by omega)]
set_option maxRecDepth 20000 in
theorem x_strike {σ : qSg} {r : Nat} {C : zC} (hr : zCb r) (h : zX σ r C) (hw : zW C) : qCI 1 32 [qr r] σ (fun v σ' => v = nI (zdawn C).2 ∧ zX σ' r (zdawn C).1 ∧ zF (zXf r) σ σ') := by
  obtain ⟨wb, wq, ww1, ww2, wh1, wh2, wo, wm, wB, wQ⟩ := id hw
  refine qCI.of [some (qr r), none, none, none] ok_32 (Nat.le_of_ble_eq_true rfl) rfl ?_
  refine qV.go 30 [9] ok_32 ?_
  simp only [qW_nop, qW_iconst, qW_iloadn, qW_aloadn, qW_istoren, qW_iinc, qW_isub, qW_ifne, qW_icge, qW_goto, qW_getf, qW_iald, qW_iast, qW_iret0, qW_putf0, Nat.reduceAdd, Nat.reduceMul, Nat.reduceBEq, Nat.reduceEqDiff, Nat.reduceLT, Nat.reduceLeDiff, Nat.zero_le, nI_add, nI_mul, nI_cl, qin_eq, qofI, qlg_0, qlg_s, qls_i0, qls_r0, qls_l0, qls_1, qls_2, qkl_i, qkl_r, qkl_l, qkl_n, qIsI_i, qIsL_l, qIsR_r, qint_i, qil_i, qil_r, qil_l, qf4_0, qf4_1, qf4_2, qf4_3, qf2_0, qf2_1, qcs_n, qcs_i, qcs_r, qcs_l, qst_n, qst_c, qJ_0, qJ_st, qJ_go, qfl_I, qfl_Z, qfl_L, qfl_R, qrI_i, qrL_l, qrV_v, qRcv_0, qRcv_s, eq_self, true_and, and_true, true_or, or_true, false_and, and_false, false_or, or_false, ite_true, if_true, if_false, Bool.true_or, Bool.false_or, Bool.or_false, beq_self_eq_true, Bool.false_eq_true, bX1_strike_0, bX1_strike_9, bX1_strike_69, bX1_strike_75, kX1_strike_0, kX1_strike_9, kX1_strike_69, kX1_strike_75, zCb_k hr, zCb_6 hr, zCb_7 hr, zCb_8 hr, zCb_9 hr, zCb_10 hr, zCb_11 hr, zCb_12 hr, zCb_13 hr, zCb_14 hr, zCb_15 hr, zCb_16 hr, zCb_a1 hr, zCb_a2 hr, zCb_a3 hr, zCb_a4 hr, zCb_a5 hr, zCb_a6 hr, zCb_a7 hr, zCb_a8 hr, zCb_a9 hr, zCb_a10 hr, zCb_a11 hr]
  rw [h.1.q]
  refine qdown (n := C 0 1) (P := fun q => ∀ σ1, zX σ1 r (zdf C q).1 → zF (zXf r) σ σ1 → qV 32 1 (.inl fun v σ' => v = nI (zdawn C).2 ∧ zX σ' r (zdawn C).1 ∧ zF (zXf r) σ σ') 9 [some (qr r), some (qi (nI (zdf C q).2)), some (qi (nI (C 0 1))), some (qi (nI q))] [] σ1) (fun q hq ih => ?_) 0 (Nat.zero_le _) σ h zF.rf
  intro σ1 a1 f1
  have w1 := zdf_W hw q hq
  have hle := zdf_le C q
  have e01 : (zdf C q).1 0 1 = C 0 1 := zdf_lo C 0 1 (by decide) q
  have hs : zdf C (q + 1) = if zOpen (zdf C q).1 q = true then (zrow (zdf C q).1 (zdf C q).2 q, (zdf C q).2 + 1) else zdf C q := rfl
  have hfin : q = C 0 1 → zdawn C = (zu (zu (zdf C q).1 0 1 (zdf C q).2) 0 5 0, C 0 1 - (zdf C q).2) := fun e => by rw [e]; rfl
  generalize zdf C q = S at a1 w1 e01 hs hfin hle ⊢
  refine qV.go 30 [9, 69] ok_32 ?_
  simp only [qW_nop, qW_iconst, qW_iloadn, qW_aloadn, qW_istoren, qW_iinc, qW_isub, qW_ifne, qW_icge, qW_goto, qW_getf, qW_iald, qW_iast, qW_iret0, qW_putf0, Nat.reduceAdd, Nat.reduceMul, Nat.reduceBEq, Nat.reduceEqDiff, Nat.reduceLT, Nat.reduceLeDiff, Nat.zero_le, nI_add, nI_mul, nI_cl, qin_eq, qofI, qlg_0, qlg_s, qls_i0, qls_r0, qls_l0, qls_1, qls_2, qkl_i, qkl_r, qkl_l, qkl_n, qIsI_i, qIsL_l, qIsR_r, qint_i, qil_i, qil_r, qil_l, qf4_0, qf4_1, qf4_2, qf4_3, qf2_0, qf2_1, qcs_n, qcs_i, qcs_r, qcs_l, qst_n, qst_c, qJ_0, qJ_st, qJ_go, qfl_I, qfl_Z, qfl_L, qfl_R, qrI_i, qrL_l, qrV_v, qRcv_0, qRcv_s, eq_self, true_and, and_true, true_or, or_true, false_and, and_false, false_or, or_false, ite_true, if_true, if_false, Bool.true_or, Bool.false_or, Bool.or_false, beq_self_eq_true, Bool.false_eq_true, bX1_strike_0, bX1_strike_9, bX1_strike_69, bX1_strike_75, kX1_strike_0, kX1_strike_9, kX1_strike_69, kX1_strike_75, zCb_k hr, zCb_6 hr, zCb_7 hr, zCb_8 hr, zCb_9 hr, zCb_10 hr, zCb_11 hr, zCb_12 hr, zCb_13 hr, zCb_14 hr, zCb_15 hr, zCb_16 hr, zCb_a1 hr, zCb_a2 hr, zCb_a3 hr, zCb_a4 hr, zCb_a5 hr, zCb_a6 hr, zCb_a7 hr, zCb_a8 hr, zCb_a9 hr, zCb_a10 hr, zCb_a11 hr]
  simp (disch := omega) only [nI_leI, nI_ltI, nI_eq, nI_cl, qin_eq, nI_add, nI_mul, qb_z, qb_t, qb_f, nI_ne0', Nat.reduceAdd, Bool.false_eq_true, if_false, if_true, true_and, and_true, Nat.reduceEqDiff, not_true_eq_false, not_false_eq_true, false_implies, true_implies, ite_true, ite_false]
  refine ⟨fun h1 => ?_, fun h1 => ?_⟩
  · have e : q = C 0 1 := by omega
    rw [hfin e, nI_sub (by omega)]
    have x1 := a1.nq (v := S.2) (fun q hq f hf => a1.1.2.2 q (by omega) f hf)
    exact ⟨rfl, x1.um, (f1.tr (zF.wi ⟨by omega, by omega⟩)).tr (zF.wi ⟨by omega, by omega⟩)⟩
  · have hq1 : q < C 0 1 := by omega
    have hq2 : q < S.1 0 1 := by omega
    have g9 := w1.2.2.2.2.2.2.2.2.2 q hq2
    rw [hs] at ih
    rw [a1.1.en hq2]
    simp (disch := omega) only [nI_leI, nI_ltI, nI_eq, nI_cl, qin_eq, nI_add, nI_mul, qb_z, qb_t, qb_f, nI_ne0', Nat.reduceAdd, Bool.false_eq_true, if_false, if_true, true_and, and_true, Nat.reduceEqDiff, not_true_eq_false, not_false_eq_true, false_implies, true_implies, ite_true, ite_false]
    refine ⟨fun h9 => ?_, fun h9 => ?_⟩
    · rw [if_neg (by unfold zOpen; rw [decide_eq_false h9]; decide)] at ih
      refine qV.go 30 [9] ok_32 ?_
      simp only [qW_nop, qW_iconst, qW_iloadn, qW_aloadn, qW_istoren, qW_iinc, qW_isub, qW_ifne, qW_icge, qW_goto, qW_getf, qW_iald, qW_iast, qW_iret0, qW_putf0, Nat.reduceAdd, Nat.reduceMul, Nat.reduceBEq, Nat.reduceEqDiff, Nat.reduceLT, Nat.reduceLeDiff, Nat.zero_le, nI_add, nI_mul, nI_cl, qin_eq, qofI, qlg_0, qlg_s, qls_i0, qls_r0, qls_l0, qls_1, qls_2, qkl_i, qkl_r, qkl_l, qkl_n, qIsI_i, qIsL_l, qIsR_r, qint_i, qil_i, qil_r, qil_l, qf4_0, qf4_1, qf4_2, qf4_3, qf2_0, qf2_1, qcs_n, qcs_i, qcs_r, qcs_l, qst_n, qst_c, qJ_0, qJ_st, qJ_go, qfl_I, qfl_Z, qfl_L, qfl_R, qrI_i, qrL_l, qrV_v, qRcv_0, qRcv_s, eq_self, true_and, and_true, true_or, or_true, false_and, and_false, false_or, or_false, ite_true, if_true, if_false, Bool.true_or, Bool.false_or, Bool.or_false, beq_self_eq_true, Bool.false_eq_true, bX1_strike_0, bX1_strike_9, bX1_strike_69, bX1_strike_75, kX1_strike_0, kX1_strike_9, kX1_strike_69, kX1_strike_75, zCb_k hr, zCb_6 hr, zCb_7 hr, zCb_8 hr, zCb_9 hr, zCb_10 hr, zCb_11 hr, zCb_12 hr, zCb_13 hr, zCb_14 hr, zCb_15 hr, zCb_16 hr, zCb_a1 hr, zCb_a2 hr, zCb_a3 hr, zCb_a4 hr, zCb_a5 hr, zCb_a6 hr, zCb_a7 hr, zCb_a8 hr, zCb_a9 hr, zCb_a10 hr, zCb_a11 hr]
      exact ih hq1 σ1 a1 f1
    · rw [if_pos (by unfold zOpen; rw [decide_eq_true h9])] at ih
      have r1 : ∀ v, (qwi σ1 (r + 8) S.2 v).1 (r + 9) q = nI (S.1 7 q) := fun v => by rw [qwi_1, if_neg (by omega), a1.1.se hq2]
      have r2 : ∀ v w, (qwi (qwi σ1 (r + 8) S.2 v) (r + 9) S.2 w).1 (r + 10) q = nI (S.1 8 q) := fun v w => by rw [qwi_1, if_neg (by omega), qwi_1, if_neg (by omega), a1.1.gr hq2]
      rw [a1.1.fi hq2]
      simp only [r1, r2]
      have x4 := (((a1.uq (f := 0) (q := S.2) (v := S.1 6 q) (by decide)).uq (f := 1) (q := S.2) (v := S.1 7 q) (by decide)).uq (f := 2) (q := S.2) (v := S.1 8 q) (by decide)).uq (f := 3) (q := S.2) (v := S.1 9 q) (by decide)
      have x5 : zX (qwi (qwi (qwi (qwi σ1 (r + 8) S.2 (nI (S.1 6 q))) (r + 9) S.2 (nI (S.1 7 q))) (r + 10) S.2 (nI (S.1 8 q))) (r + 11) S.2 (nI (S.1 9 q))) r (zrow S.1 S.2 q) := zrow_u S.1 S.2 q ▸ x4
      rw [h9] at x5
      have := ih hq1 _ x5 ((((f1.tr (zF.wi ⟨by omega, by omega⟩)).tr (zF.wi ⟨by omega, by omega⟩)).tr (zF.wi ⟨by omega, by omega⟩)).tr (zF.wi ⟨by omega, by omega⟩))
      refine qV.go 30 [9] ok_32 ?_
      simp only [qW_nop, qW_iconst, qW_iloadn, qW_aloadn, qW_istoren, qW_iinc, qW_isub, qW_ifne, qW_icge, qW_goto, qW_getf, qW_iald, qW_iast, qW_iret0, qW_putf0, Nat.reduceAdd, Nat.reduceMul, Nat.reduceBEq, Nat.reduceEqDiff, Nat.reduceLT, Nat.reduceLeDiff, Nat.zero_le, nI_add, nI_mul, nI_cl, qin_eq, qofI, qlg_0, qlg_s, qls_i0, qls_r0, qls_l0, qls_1, qls_2, qkl_i, qkl_r, qkl_l, qkl_n, qIsI_i, qIsL_l, qIsR_r, qint_i, qil_i, qil_r, qil_l, qf4_0, qf4_1, qf4_2, qf4_3, qf2_0, qf2_1, qcs_n, qcs_i, qcs_r, qcs_l, qst_n, qst_c, qJ_0, qJ_st, qJ_go, qfl_I, qfl_Z, qfl_L, qfl_R, qrI_i, qrL_l, qrV_v, qRcv_0, qRcv_s, eq_self, true_and, and_true, true_or, or_true, false_and, and_false, false_or, or_false, ite_true, if_true, if_false, Bool.true_or, Bool.false_or, Bool.or_false, beq_self_eq_true, Bool.false_eq_true, bX1_strike_0, bX1_strike_9, bX1_strike_69, bX1_strike_75, kX1_strike_0, kX1_strike_9, kX1_strike_69, kX1_strike_75, zCb_k hr, zCb_6 hr, zCb_7 hr, zCb_8 hr, zCb_9 hr, zCb_10 hr, zCb_11 hr, zCb_12 hr, zCb_13 hr, zCb_14 hr, zCb_15 hr, zCb_16 hr, zCb_a1 hr, zCb_a2 hr, zCb_a3 hr, zCb_a4 hr, zCb_a5 hr, zCb_a6 hr, zCb_a7 hr, zCb_a8 hr, zCb_a9 hr, zCb_a10 hr, zCb_a11 hr]
      exact this
theorem zCb_ap {r s : Nat} (h : zCb r) (h' : zCb s) (hne : r ≠ s) : r + 11 < s ∨ s + 11 < r := by unfold zCb at h h'; omega
def zCy (σ : qSg) (r s m : Nat) (τ : qSg) : Prop := (∀ a j, ¬ (r ≤ a ∧ a ≤ r + 11) → τ.1 a j = σ.1 a j) ∧ (∀ k, k < 6 → τ.1 r k = σ.1 s k) ∧ (∀ k j, 2 ≤ k → k ≤ m → j < (if k < 8 then 8 else 10) → τ.1 (r + k) j = σ.1 (s + k) j) ∧ (∀ j, j < 8 → τ.2 (r + 1) j = σ.2 (s + 1) j) ∧ (∀ a j, a ≠ r + 1 → τ.2 a j = σ.2 a j)
theorem qci_1 (σ : qSg) (a i b j n c k : Nat) : (qci σ a i b j n).1 c k = if c = b then (if j ≤ k ∧ k < j + n then σ.1 a (i + (k - j)) else σ.1 b k) else σ.1 c k := by
  by_cases e : c = b
  · subst e; rw [if_pos rfl]; show (if c = c then va_cpy (σ.1 a) (σ.1 c) i j n k else σ.1 c k) = _; rw [if_pos rfl]; rfl
  · rw [if_neg e]; show (if c = b then va_cpy (σ.1 a) (σ.1 b) i j n k else σ.1 c k) = _; rw [if_neg e]
theorem qcl_2 (σ : qSg) (a i b j n c k : Nat) : (qcl σ a i b j n).2 c k = if c = b then (if j ≤ k ∧ k < j + n then σ.2 a (i + (k - j)) else σ.2 b k) else σ.2 c k := by
  by_cases e : c = b
  · subst e; rw [if_pos rfl]; show (if c = c then va_cpy (σ.2 a) (σ.2 c) i j n k else σ.2 c k) = _; rw [if_pos rfl]; rfl
  · rw [if_neg e]; show (if c = b then va_cpy (σ.2 a) (σ.2 b) i j n k else σ.2 c k) = _; rw [if_neg e]
theorem qcl_1 (σ : qSg) (a i b j n : Nat) : (qcl σ a i b j n).1 = σ.1 := rfl
theorem qci_2 (σ : qSg) (a i b j n : Nat) : (qci σ a i b j n).2 = σ.2 := rfl
theorem zCy.st {σ τ : qSg} {r s m : Nat} (h : zCy σ r s m τ) (ap : r + 11 < s ∨ s + 11 < r) {k N : Nat} (hm : 1 ≤ m) (hm2 : m < 11) (hk : k = m + 1) (hN : N = if m + 1 < 8 then 8 else 10) : zCy σ r s (m + 1) (qci τ (s + k) 0 (r + k) 0 N) := by
  obtain ⟨h1, h2, h3, h4, h5⟩ := h
  subst hk
  have hN2 : N = 8 ∨ N = 10 := by split at hN <;> omega
  refine ⟨fun a j ha => ?_, fun k hk => ?_, fun k j k1 k2 hj => ?_, h4, h5⟩
  · rw [qci_1, if_neg (by omega)]; exact h1 a j ha
  · rw [qci_1, if_neg (by omega)]; exact h2 k hk
  · rw [qci_1]
    by_cases e : k = m + 1
    · subst e
      have hj2 : j < N := by rw [hN]; exact hj
      rw [if_pos rfl, if_pos ⟨Nat.zero_le _, by omega⟩, h1 _ _ (by omega), Nat.sub_zero, Nat.zero_add]
    · rw [if_neg (by omega)]; exact h3 k j k1 (by omega) hj
set_option maxRecDepth 20000 in
theorem x_copy {σ : qSg} {r s : Nat} {C : zC} (hr : zCb r) (hs : zCb s) (hne : r ≠ s) (h : zX σ s C) (hw : zW C) : qCV 1 9 [qr r, qr s] σ (fun σ' => zX σ' r C ∧ (∀ j, j < 8 → σ'.2 (r + 1) j = σ.2 (s + 1) j) ∧ zG (zXf r) (fun a _ => a = r + 1) σ σ') := by
  obtain ⟨wb, wq, ww1, ww2, wh1, wh2, wo, wm, wB, wQ⟩ := id hw
  have ap := zCb_ap hr hs hne
  refine qCV.of [some (qr r), some (qr s)] ok_9 (Nat.le_of_ble_eq_true rfl) rfl ?_
  refine qV.go 30 [9999] ok_9 ?_
  simp only [qW_nop, qW_iconst, qW_bipush, qW_aloadn, qW_ifnonnull, qW_getf, qW_vret, qW_putf0, qW_cpyI, qW_cpyL, qrg_8, qrg_10, qrg_60, Nat.reduceAdd, Nat.reduceMul, Nat.reduceBEq, Nat.reduceEqDiff, Nat.reduceLT, Nat.reduceLeDiff, Nat.zero_le, nI_add, nI_mul, nI_cl, qin_eq, qofI, qlg_0, qlg_s, qls_i0, qls_r0, qls_l0, qls_1, qls_2, qkl_i, qkl_r, qkl_l, qkl_n, qIsI_i, qIsL_l, qIsR_r, qint_i, qil_i, qil_r, qil_l, qf4_0, qf4_1, qf4_2, qf4_3, qf2_0, qf2_1, qcs_n, qcs_i, qcs_r, qcs_l, qst_n, qst_c, qJ_0, qJ_st, qJ_go, qfl_I, qfl_Z, qfl_L, qfl_R, qrI_i, qrL_l, qrV_v, qRcv_0, qRcv_s, eq_self, true_and, and_true, true_or, or_true, false_and, and_false, false_or, or_false, ite_true, if_true, if_false, Bool.true_or, Bool.false_or, Bool.or_false, beq_self_eq_true, Bool.false_eq_true, bX1_copy_0, bX1_copy_5, kX1_copy_0, kX1_copy_5, zCb_k hr, zCb_6 hr, zCb_7 hr, zCb_8 hr, zCb_9 hr, zCb_10 hr, zCb_11 hr, zCb_12 hr, zCb_13 hr, zCb_14 hr, zCb_15 hr, zCb_16 hr, zCb_a1 hr, zCb_a2 hr, zCb_a3 hr, zCb_a4 hr, zCb_a5 hr, zCb_a6 hr, zCb_a7 hr, zCb_a8 hr, zCb_a9 hr, zCb_a10 hr, zCb_a11 hr, zCb_k hs, zCb_6 hs, zCb_7 hs, zCb_8 hs, zCb_9 hs, zCb_10 hs, zCb_11 hs, zCb_12 hs, zCb_13 hs, zCb_14 hs, zCb_15 hs, zCb_16 hs, zCb_a1 hs, zCb_a2 hs, zCb_a3 hs, zCb_a4 hs, zCb_a5 hs, zCb_a6 hs, zCb_a7 hs, zCb_a8 hs, zCb_a9 hs, zCb_a10 hs, zCb_a11 hs]
  have hsr : (s = r) = False := eq_false (fun e => hne e.symm)
  simp only [qwi_1, hsr, false_and, if_false]
  have base : zCy σ r s 1 (qcl (qwi (qwi (qwi (qwi (qwi (qwi σ r 0 (σ.1 s 0)) r 1 (σ.1 s 1)) r 2 (σ.1 s 2)) r 3 (σ.1 s 3)) r 4 (σ.1 s 4)) r 5 (σ.1 s 5)) (s + 1) 0 (r + 1) 0 8) := by
    refine ⟨fun a j ha => ?_, fun k hk => ?_, fun k j k1 k2 hj => by omega, fun j hj => ?_, fun a j ha => ?_⟩
    · show (qwi (qwi (qwi (qwi (qwi (qwi σ r 0 (σ.1 s 0)) r 1 (σ.1 s 1)) r 2 (σ.1 s 2)) r 3 (σ.1 s 3)) r 4 (σ.1 s 4)) r 5 (σ.1 s 5)).1 a j = _
      rw [qwi_1, if_neg (by omega), qwi_1, if_neg (by omega), qwi_1, if_neg (by omega), qwi_1, if_neg (by omega), qwi_1, if_neg (by omega), qwi_1, if_neg (by omega)]
    · show (qwi (qwi (qwi (qwi (qwi (qwi σ r 0 (σ.1 s 0)) r 1 (σ.1 s 1)) r 2 (σ.1 s 2)) r 3 (σ.1 s 3)) r 4 (σ.1 s 4)) r 5 (σ.1 s 5)).1 r k = _
      simp only [qwi_1, true_and]
      rcases (show k = 0 ∨ k = 1 ∨ k = 2 ∨ k = 3 ∨ k = 4 ∨ k = 5 by omega) with rfl | rfl | rfl | rfl | rfl | rfl <;> rfl
    · rw [qcl_2, if_pos rfl, if_pos ⟨Nat.zero_le _, by omega⟩, Nat.sub_zero, Nat.zero_add]
      rfl
    · rw [qcl_2, if_neg ha]
      rfl
  have key := (((((((((base.st ap (k := 2) (N := 8) (by decide) (by decide) rfl rfl).st ap (k := 3) (N := 8) (by decide) (by decide) rfl rfl).st ap (k := 4) (N := 8) (by decide) (by decide) rfl rfl).st ap (k := 5) (N := 8) (by decide) (by decide) rfl rfl).st ap (k := 6) (N := 8) (by decide) (by decide) rfl rfl).st ap (k := 7) (N := 8) (by decide) (by decide) rfl rfl).st ap (k := 8) (N := 10) (by decide) (by decide) rfl rfl).st ap (k := 9) (N := 10) (by decide) (by decide) rfl rfl).st ap (k := 10) (N := 10) (by decide) (by decide) rfl rfl).st ap (k := 11) (N := 10) (by decide) (by decide) rfl rfl
  have fin : ∀ T, zCy σ r s 11 T → zX T r C ∧ (∀ j, j < 8 → T.2 (r + 1) j = σ.2 (s + 1) j) ∧ zG (zXf r) (fun a _ => a = r + 1) σ T := by
    rintro T ⟨t1, t2, t3, t4, t5⟩
    obtain ⟨⟨h1, h2, h3⟩, h4⟩ := h
    refine ⟨⟨⟨?_, fun b hb f hf => ?_, fun q hq f hf => ?_⟩, fun b hb => ?_⟩, t4, fun a j hn => t1 a j (by unfold zXf at hn; omega), fun a j hn => t5 a j hn⟩
    · rw [t2 0 (by decide), t2 1 (by decide), t2 2 (by decide), t2 3 (by decide), t2 4 (by decide), t2 5 (by decide)]
      exact h1
    · rw [t3 (2 + f) b (by omega) (by omega) (by rw [if_pos (by omega)]; omega)]
      exact h2 b hb f hf
    · rw [t3 (8 + f) q (by omega) (by omega) (by rw [if_neg (by omega)]; omega)]
      exact h3 q hq f hf
    · rw [t3 7 b (by omega) (by omega) (by rw [if_pos (by omega)]; omega)]
      exact h4 b hb
  exact fin _ key
set_option maxRecDepth 20000 in
theorem x_empty {σ : qSg} {r : Nat} (hr : zCb r) : qCV 1 8 [qr r] σ (fun σ' => zX σ' r zC0 ∧ zF (fun a j => a = r ∧ j < 6) σ σ') := by
  refine qCV.of [some (qr r)] ok_8 (Nat.le_of_ble_eq_true rfl) rfl ?_
  refine qV.go 30 [9999] ok_8 ?_
  simp only [qW_nop, qW_iconst, qW_aloadn, qW_vret, qW_putf0, Nat.reduceAdd, Nat.reduceMul, Nat.reduceBEq, Nat.reduceEqDiff, Nat.reduceLT, Nat.reduceLeDiff, Nat.zero_le, nI_add, nI_mul, nI_cl, qin_eq, qofI, qlg_0, qlg_s, qls_i0, qls_r0, qls_l0, qls_1, qls_2, qkl_i, qkl_r, qkl_l, qkl_n, qIsI_i, qIsL_l, qIsR_r, qint_i, qil_i, qil_r, qil_l, qf4_0, qf4_1, qf4_2, qf4_3, qf2_0, qf2_1, qcs_n, qcs_i, qcs_r, qcs_l, qst_n, qst_c, qJ_0, qJ_st, qJ_go, qfl_I, qfl_Z, qfl_L, qfl_R, qrI_i, qrL_l, qrV_v, qRcv_0, qRcv_s, eq_self, true_and, and_true, true_or, or_true, false_and, and_false, false_or, or_false, ite_true, if_true, if_false, Bool.true_or, Bool.false_or, Bool.or_false, beq_self_eq_true, Bool.false_eq_true, bX1_empty_0, kX1_empty_0, zCb_k hr, zCb_6 hr, zCb_7 hr, zCb_8 hr, zCb_9 hr, zCb_10 hr, zCb_11 hr, zCb_12 hr, zCb_13 hr, zCb_14 hr, zCb_15 hr, zCb_16 hr, zCb_a1 hr, zCb_a2 hr, zCb_a3 hr, zCb_a4 hr, zCb_a5 hr, zCb_a6 hr, zCb_a7 hr, zCb_a8 hr, zCb_a9 hr, zCb_a10 hr, zCb_a11 hr]
  refine ⟨⟨⟨?_, fun b hb f hf => ?_, fun q hq f hf => ?_⟩, fun b hb => ?_⟩, ?_⟩
  · simp only [qwi_1, true_and]
    refine ⟨rfl, rfl, rfl, rfl, rfl, rfl⟩
  · exact absurd hb (Nat.not_lt_zero _)
  · exact absurd hq (Nat.not_lt_zero _)
  · exact absurd hb (Nat.not_lt_zero _)
  · exact (((((zF.wi ⟨rfl, by decide⟩).tr (zF.wi ⟨rfl, by decide⟩)).tr (zF.wi ⟨rfl, by decide⟩)).tr (zF.wi ⟨rfl, by decide⟩)).tr (zF.wi ⟨rfl, by decide⟩)).tr (zF.wi ⟨rfl, by decide⟩)
