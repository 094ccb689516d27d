/-! the class: a life goes its way -/
theorem zXW.lf {σ σ' : qSg} {r n st : Nat} {W : Nat → Nat → Nat} (h : zXW σ 74 W n st) (hr : zCb r) (f : zF (zPlf r) σ σ') : zXW σ' 74 W n st := h.fr fun a j h1 h2 => f.1 a j (by unfold zPlf zXf; unfold zCb at hr; omega)
def zwkP (W : Nat → Nat → Nat) (k : Nat) : Prop := (zwk (W k) = 8 → W k 0 = 3) ∧ (zwk (W k) = 10 → W k 0 = 10) ∧ (zwk (W k) = 11 → W k 0 = 11) ∧ (zwk (W k) = 12 → W k 0 = 12) ∧ (zwk (W k) = 13 → W k 0 = 13) ∧ (zwk (W k) = 14 → W k 0 = 14) ∧ (zwk (W k) = 15 → 1500 ≤ W k 0) ∧ (zwk (W k) = 19 ↔ W k 0 = 16) ∧ (zwk (W k) = 20 ↔ W k 0 = 17) ∧ (zwk (W k) = 21 → W k 0 = 18) ∧ (zwk (W k) ≠ 9 ∧ zwk (W k) ≠ 16 ∧ zwk (W k) ≠ 17 ∧ zwk (W k) ≠ 18 ∧ 8 ≤ zwk (W k) ∧ zwk (W k) ≤ 21)
theorem zwk_v {W : Nat → Nat → Nat} {n b c k : Nat} (hW : zWk W n b c k) : zwkP W k := by
  obtain ⟨ka, -⟩ := hW
  unfold zwkP zwk
  by_cases e : 1500 ≤ W k 0
  · rw [if_pos e]
    omega
  · rw [if_neg e]
    have : W k 0 = 3 ∨ W k 0 = 10 ∨ W k 0 = 11 ∨ W k 0 = 12 ∨ W k 0 = 13 ∨ W k 0 = 14 ∨ W k 0 = 16 ∨ W k 0 = 17 ∨ W k 0 = 18 := by omega
    rcases this with h | h | h | h | h | h | h | h | h <;> rw [h] <;> decide
theorem zwkP.lt {W : Nat → Nat → Nat} {k : Nat} (h : zwkP W k) : zwk (W k) < 2147483648 := by
  have := h.2.2.2.2.2.2.2.2.2.2.2.2.2.2.2
  omega
theorem zwkP.no {W : Nat → Nat → Nat} {k : Nat} (h : zwkP W k) {x : Int} (hx : x = 9 ∨ x = 16 ∨ x = 17 ∨ x = 18) : ¬ ((zwk (W k) : Int) = x) := by
  obtain ⟨a, b, c, d, -⟩ := h.2.2.2.2.2.2.2.2.2.2
  omega
theorem zwkP.in {W : Nat → Nat → Nat} {k : Nat} (h : zwkP W k) : ¬ ((zwk (W k) : Int) < 8 ∨ 21 < (zwk (W k) : Int)) := by
  obtain ⟨-, -, -, -, a, b⟩ := h.2.2.2.2.2.2.2.2.2.2
  omega
set_option maxRecDepth 20000 in
theorem x_behind {σ : qSg} {k m : Nat} (h : σ.1 80 1 = nI m) (b : Bool) : qCI 1 66 [qr 80, qi (nI k), qi (qb b)] σ (fun v σ' => v = nI (k + 1) ∧ σ' = if b = true then σ else qwi σ 80 1 (nI (m + 1))) := by
  refine qCI.of [some (qr 80), some (qi (nI k)), some (qi (qb b))] ok_66 (Nat.le_of_ble_eq_true rfl) rfl ?_
  refine qV.go 30 [9999] ok_66 ?_
  simp only [qW_nop, qW_iconst, qW_iloadn, qW_aloadn, qW_iadd, qW_dup, qW_ifne, qW_getf, qW_iret0, qW_putf0, Nat.reduceAdd, Nat.reduceMul, Nat.reduceBEq, Nat.reduceEqDiff, Nat.reduceLT, Nat.reduceLeDiff, Nat.zero_le, nI_add, nI_mul, nI_cl, qin_eq, qofI, qlg_0, qlg_s, qls_i0, qls_r0, qls_l0, qls_1, qls_2, qkl_i, qkl_r, qkl_l, qkl_n, qIsI_i, qIsL_l, qIsR_r, qint_i, qil_i, qil_r, qil_l, qf4_0, qf4_1, qf4_2, qf4_3, qf2_0, qf2_1, qcs_n, qcs_i, qcs_r, qcs_l, qst_n, qst_c, qJ_0, qJ_st, qJ_go, qfl_I, qfl_Z, qfl_L, qfl_R, qrI_i, qrL_l, qrV_v, qRcv_0, qRcv_s, eq_self, true_and, and_true, true_or, or_true, false_and, and_false, false_or, or_false, ite_true, if_true, if_false, Bool.true_or, Bool.false_or, Bool.or_false, beq_self_eq_true, Bool.false_eq_true, bX5_behind_0, bX5_behind_14, kX5_behind_0, kX5_behind_14, qK_80, qR_80_7, qK_81]
  rw [h]
  simp (disch := omega) only [nI_leI, nI_ltI, nI_eq, nI_cl, qin_eq, nI_add, nI_mul, qb_z, qb_t, qb_f, nI_ne0', Nat.reduceAdd, Bool.false_eq_true, if_false, if_true, true_and, and_true, Nat.reduceEqDiff, not_true_eq_false, not_false_eq_true, false_implies, true_implies, ite_true, ite_false]
  cases b with
  | true => simp
  | false => simp
theorem zbeh_n {W : Nat → Nat → Nat} {k : Nat} {q : Bool × zL} (h16 : W k 0 ≠ 16) (h15 : W k 0 < 1500) : zbeh W k q = zsR (zsR q.2 0 (q.2.2.2 0 + (if q.1 then 0 else 1))) 7 (k + 1) := by
  unfold zbeh
  rw [if_neg h16, show (if 1500 ≤ W k 0 ∧ zholds W k q.2.1 = false then W k 4 + 1 else k + 1) = k + 1 from if_neg (fun hh => by have := hh.1; omega)]
theorem zXl.beh {σ : qSg} {r : Nat} {W : Nat → Nat → Nat} {k : Nat} {q : Bool × zL} (hr : zCb r) (h : zXl σ r q.2) (h16 : W k 0 ≠ 16) (h15 : W k 0 < 1500) : zXl (if q.1 = true then σ else qwi σ 80 1 (nI (q.2.2.2 0 + 1))) r (zbeh W k q) := by
  rw [zbeh_n h16 h15]
  cases e : q.1 with
  | true =>
    rw [if_pos rfl, if_pos rfl, Nat.add_zero, zsR_id]
    exact h.k (by decide)
  | false =>
    rw [if_neg (by decide), if_neg (by decide)]
    exact (h.r hr (by unfold zrm; omega)).k (by decide)
def zXbh (r : Nat) (W : Nat → Nat → Nat) (k : Nat) (s : zL) (σ : qSg) (v : Int32) (σ' : qSg) : Prop := if W k 0 = 18 then v = iI (-1) ∧ σ' = σ else v = nI ((zbeh W k (zdo W k s)).2.2 7) ∧ zXl σ' r (zbeh W k (zdo W k s)) ∧ zF (zPlf r) σ σ'
theorem zbeh_7 (W : Nat → Nat → Nat) (k : Nat) (q : Bool × zL) : (zbeh W k q).2.2 7 = if 1500 ≤ W k 0 ∧ zholds W k q.2.1 = false then W k 4 + 1 else k + 1 := by
  unfold zbeh
  exact zsR_e
set_option maxRecDepth 20000 in
theorem x_behindStep {σ : qSg} {r n st k : Nat} {W : Nat → Nat → Nat} {s : zL} (hr : zCb r) (h : zXl σ r s) (hV : zXW σ 74 W n st) (hs : zLW W n s) (hk : k < n) (h17 : W k 0 ≠ 17) : qCI 6 65 [qr 80, qr r, qr 74, qi (nI k)] σ (zXbh r W k s σ) := by
  have hw := hs.1
  have hn := hs.2.1.1
  have hWk := hs.2.1.2.1 k hk
  have hst5 := hs.2.2.2.2.1
  have wb := hw.1
  have hz := zwk_v hWk
  obtain ⟨v1, v2, v3, v4, v5⟩ := hV.2.2 k hk
  have bd := hz.lt
  refine qCI.of [some (qr 80), some (qr r), some (qr 74), some (qi (nI k)), none, none, none] ok_65 (Nat.le_of_ble_eq_true rfl) rfl ?_
  have LO : qLo := [some (qr 80), some (qr r), some (qr 74), some (qi (nI k)), some (qi (nI (zwa (W k)))), some (qi (nI (zwb (W k)))), some (qi (nI (zwc (W k))))]
  -- what is done, and behind it
  have bh : ∀ v σ1, W k 0 ≠ 16 → W k 0 < 1500 → W k 0 ≠ 18 → zXdo r σ (zdo W k s) v σ1 → qBI 6 66 [qr 80, qi (nI k), qi v] σ1 (fun v σ' => zXbh r W k s σ v σ') := by
    intro v σ1 h1 h2 h3 g1
    obtain ⟨rfl, X1, f1⟩ := g1
    refine qBI.of (x_behind (X1.2.1.2.1) _) (by decide) (fun v σ2 g2 => ?_)
    obtain ⟨rfl, rfl⟩ := g2
    unfold zXbh
    rw [if_neg h3, zbeh_7, if_neg (fun hh => by omega)]
    refine ⟨rfl, X1.beh hr h1 h2, ?_⟩
    split
    · exact f1
    · exact f1.tr (zPlf_r (by decide))
  refine qV.go 30 [112, 114, 126, 154, 167, 177, 194, 223, 237, 248] ok_65 ?_
  simp only [qW_nop, qW_iconst, qW_iconstm, qW_iloadn, qW_iload, qW_aloadn, qW_istore, qW_iadd, qW_ifeq, qW_ifne, qW_ifle, qW_goto, qW_tsw, qW_getf, qW_iald, qW_iast, qW_cs1_0, qW_cs3_0, qW_cs4_0, qW_cv2_0, qW_cv3_0, qW_cv5_0, qW_iret0, Nat.reduceAdd, Nat.reduceMul, Nat.reduceBEq, Nat.reduceEqDiff, Nat.reduceLT, Nat.reduceLeDiff, Nat.zero_le, nI_add, nI_mul, nI_cl, qin_eq, qofI, qlg_0, qlg_s, qls_i0, qls_r0, qls_l0, qls_1, qls_2, qkl_i, qkl_r, qkl_l, qkl_n, qIsI_i, qIsL_l, qIsR_r, qint_i, qil_i, qil_r, qil_l, qf4_0, qf4_1, qf4_2, qf4_3, qf2_0, qf2_1, qcs_n, qcs_i, qcs_r, qcs_l, qst_n, qst_c, qJ_0, qJ_st, qJ_go, qfl_I, qfl_Z, qfl_L, qfl_R, qrI_i, qrL_l, qrV_v, qRcv_0, qRcv_s, eq_self, true_and, and_true, true_or, or_true, false_and, and_false, false_or, or_false, ite_true, if_true, if_false, Bool.true_or, Bool.false_or, Bool.or_false, beq_self_eq_true, Bool.false_eq_true, bX5_behindStep_0, bX5_behindStep_10, bX5_behindStep_112, bX5_behindStep_114, bX5_behindStep_126, bX5_behindStep_145, bX5_behindStep_153, bX5_behindStep_154, bX5_behindStep_167, bX5_behindStep_177, bX5_behindStep_194, bX5_behindStep_218, bX5_behindStep_219, bX5_behindStep_223, bX5_behindStep_237, bX5_behindStep_248, kX5_behindStep_0, kX5_behindStep_10, kX5_behindStep_112, kX5_behindStep_114, kX5_behindStep_126, kX5_behindStep_145, kX5_behindStep_153, kX5_behindStep_154, kX5_behindStep_167, kX5_behindStep_177, kX5_behindStep_194, kX5_behindStep_218, kX5_behindStep_219, kX5_behindStep_223, kX5_behindStep_237, kX5_behindStep_248, qK_80, qR_80_7, qK_81, qK_74, qR_74_3, qK_75, qR_74_4, qK_76, qR_74_5, qK_77, qR_74_6, qK_78, qR_74_7, qK_79, zCb_k hr, zCb_6 hr, zCb_7 hr, zCb_8 hr, zCb_9 hr, zCb_10 hr, zCb_11 hr, zCb_12 hr, zCb_13 hr, zCb_14 hr, zCb_15 hr, zCb_16 hr, zCb_a1 hr, zCb_a2 hr, zCb_a3 hr, zCb_a4 hr, zCb_a5 hr, zCb_a6 hr, zCb_a7 hr, zCb_a8 hr, zCb_a9 hr, zCb_a10 hr, zCb_a11 hr]
  refine qBI.fn (x_hasLine (Or.inr (Or.inl rfl)) hV.1 hn _) (by decide) ?_
  rw [zrg_k hk (by omega)]
  simp (disch := omega) only [nI_leI, nI_ltI, nI_eq, nI_cl, qin_eq, nI_add, nI_mul, qb_z, qb_t, qb_f, nI_ne0', Nat.reduceAdd, Bool.false_eq_true, if_false, if_true, true_and, and_true, Nat.reduceEqDiff, not_true_eq_false, not_false_eq_true, false_implies, true_implies, ite_true, ite_false]
  have u1 : σ.1 75 k = nI (zwk (W k)) := v1
  have u2 : σ.1 76 k = nI (zwa (W k)) := v2
  have u3 : σ.1 77 k = nI (zwb (W k)) := v3
  have u4 : σ.1 78 k = nI (zwc (W k)) := v4
  rw [u1, u2, u3, u4, qsw]
  simp only [qsl, nI_t bd]
  refine ⟨fun g => absurd g hz.in, fun g => ?_, fun g => absurd g (hz.no (by decide)), fun g => ?_, fun g => ?_, fun g => ?_, fun g => ?_, fun g => ?_, fun g => ?_, fun g => absurd g (hz.no (by decide)), fun g => absurd g (hz.no (by decide)), fun g => absurd g (hz.no (by decide)), fun g => ?_, fun g => absurd (hz.2.2.2.2.2.2.2.2.1.mp (by omega)) h17, fun g => ?_, trivial⟩
  · -- a quarrel
    have e := hz.1 (by omega)
    rw [qJ_st _ _ _ _ _ (by rfl)]
    have ed : zdo W k s = zfall s (W k 1) (W k 2) (W k 3) := by unfold zdo; rw [if_neg (by omega), if_neg (by omega), if_pos e]
    have ea : zwa (W k) = W k 1 := if_neg (by omega)
    have eb : zwb (W k) = W k 2 := by unfold zwb; rw [if_neg (by omega), if_neg (by omega)]
    have ec : zwc (W k) = W k 3 := if_neg (by omega)
    obtain ⟨j1, j2, j3⟩ := hWk.2.2.1 e
    rw [ea, eb, ec]
    refine qV.go 30 [9999] ok_65 ?_
    simp only [qW_nop, qW_iconst, qW_iconstm, qW_iloadn, qW_iload, qW_aloadn, qW_istore, qW_iadd, qW_ifeq, qW_ifne, qW_ifle, qW_goto, qW_tsw, qW_getf, qW_iald, qW_iast, qW_cs1_0, qW_cs3_0, qW_cs4_0, qW_cv2_0, qW_cv3_0, qW_cv5_0, qW_iret0, Nat.reduceAdd, Nat.reduceMul, Nat.reduceBEq, Nat.reduceEqDiff, Nat.reduceLT, Nat.reduceLeDiff, Nat.zero_le, nI_add, nI_mul, nI_cl, qin_eq, qofI, qlg_0, qlg_s, qls_i0, qls_r0, qls_l0, qls_1, qls_2, qkl_i, qkl_r, qkl_l, qkl_n, qIsI_i, qIsL_l, qIsR_r, qint_i, qil_i, qil_r, qil_l, qf4_0, qf4_1, qf4_2, qf4_3, qf2_0, qf2_1, qcs_n, qcs_i, qcs_r, qcs_l, qst_n, qst_c, qJ_0, qJ_st, qJ_go, qfl_I, qfl_Z, qfl_L, qfl_R, qrI_i, qrL_l, qrV_v, qRcv_0, qRcv_s, eq_self, true_and, and_true, true_or, or_true, false_and, and_false, false_or, or_false, ite_true, if_true, if_false, Bool.true_or, Bool.false_or, Bool.or_false, beq_self_eq_true, Bool.false_eq_true, bX5_behindStep_0, bX5_behindStep_10, bX5_behindStep_112, bX5_behindStep_114, bX5_behindStep_126, bX5_behindStep_145, bX5_behindStep_153, bX5_behindStep_154, bX5_behindStep_167, bX5_behindStep_177, bX5_behindStep_194, bX5_behindStep_218, bX5_behindStep_219, bX5_behindStep_223, bX5_behindStep_237, bX5_behindStep_248, kX5_behindStep_0, kX5_behindStep_10, kX5_behindStep_112, kX5_behindStep_114, kX5_behindStep_126, kX5_behindStep_145, kX5_behindStep_153, kX5_behindStep_154, kX5_behindStep_167, kX5_behindStep_177, kX5_behindStep_194, kX5_behindStep_218, kX5_behindStep_219, kX5_behindStep_223, kX5_behindStep_237, kX5_behindStep_248, qK_80, qR_80_7, qK_81, zCb_k hr, zCb_6 hr, zCb_7 hr, zCb_8 hr, zCb_9 hr, zCb_10 hr, zCb_11 hr, zCb_12 hr, zCb_13 hr, zCb_14 hr, zCb_15 hr, zCb_16 hr, zCb_a1 hr, zCb_a2 hr, zCb_a3 hr, zCb_a4 hr, zCb_a5 hr, zCb_a6 hr, zCb_a7 hr, zCb_a8 hr, zCb_a9 hr, zCb_a10 hr, zCb_a11 hr]
    refine qBI.of (x_fallOut hr h hw j1 j2) (by decide) (fun v σ1 g1 => ?_)
    rw [← ed] at g1
    exact bh v σ1 (by omega) (by omega) (by omega) g1
  · -- minutes
    have e := hz.2.1 (by omega)
    rw [qJ_st _ _ _ _ _ (by rfl)]
    have ed : zdo W k s = (if s.1 0 5 + W k 1 ≤ 9999 then (true, zsR (zsR (zsC s (zit (W k 1) s.1)) 2 (s.2.2 2 + (zmins (W k 1) s.1).2)) 1 (s.2.2 1 + W k 1)) else (false, s)) := by unfold zdo; rw [if_pos e]
    have ea : zwa (W k) = W k 1 := if_neg (by omega)
    have j := hWk.2.1 e
    have h6 := hs.2.2.2.2.2.2.1
    have h7 := hs.2.2.2.2.2.2.2.1
    rw [ea]
    refine qV.go 30 [9999] ok_65 ?_
    simp only [qW_nop, qW_iconst, qW_iconstm, qW_iloadn, qW_iload, qW_aloadn, qW_istore, qW_iadd, qW_ifeq, qW_ifne, qW_ifle, qW_goto, qW_tsw, qW_getf, qW_iald, qW_iast, qW_cs1_0, qW_cs3_0, qW_cs4_0, qW_cv2_0, qW_cv3_0, qW_cv5_0, qW_iret0, Nat.reduceAdd, Nat.reduceMul, Nat.reduceBEq, Nat.reduceEqDiff, Nat.reduceLT, Nat.reduceLeDiff, Nat.zero_le, nI_add, nI_mul, nI_cl, qin_eq, qofI, qlg_0, qlg_s, qls_i0, qls_r0, qls_l0, qls_1, qls_2, qkl_i, qkl_r, qkl_l, qkl_n, qIsI_i, qIsL_l, qIsR_r, qint_i, qil_i, qil_r, qil_l, qf4_0, qf4_1, qf4_2, qf4_3, qf2_0, qf2_1, qcs_n, qcs_i, qcs_r, qcs_l, qst_n, qst_c, qJ_0, qJ_st, qJ_go, qfl_I, qfl_Z, qfl_L, qfl_R, qrI_i, qrL_l, qrV_v, qRcv_0, qRcv_s, eq_self, true_and, and_true, true_or, or_true, false_and, and_false, false_or, or_false, ite_true, if_true, if_false, Bool.true_or, Bool.false_or, Bool.or_false, beq_self_eq_true, Bool.false_eq_true, bX5_behindStep_0, bX5_behindStep_10, bX5_behindStep_112, bX5_behindStep_114, bX5_behindStep_126, bX5_behindStep_145, bX5_behindStep_153, bX5_behindStep_154, bX5_behindStep_167, bX5_behindStep_177, bX5_behindStep_194, bX5_behindStep_218, bX5_behindStep_219, bX5_behindStep_223, bX5_behindStep_237, bX5_behindStep_248, kX5_behindStep_0, kX5_behindStep_10, kX5_behindStep_112, kX5_behindStep_114, kX5_behindStep_126, kX5_behindStep_145, kX5_behindStep_153, kX5_behindStep_154, kX5_behindStep_167, kX5_behindStep_177, kX5_behindStep_194, kX5_behindStep_218, kX5_behindStep_219, kX5_behindStep_223, kX5_behindStep_237, kX5_behindStep_248, qK_80, qR_80_7, qK_81, zCb_k hr, zCb_6 hr, zCb_7 hr, zCb_8 hr, zCb_9 hr, zCb_10 hr, zCb_11 hr, zCb_12 hr, zCb_13 hr, zCb_14 hr, zCb_15 hr, zCb_16 hr, zCb_a1 hr, zCb_a2 hr, zCb_a3 hr, zCb_a4 hr, zCb_a5 hr, zCb_a6 hr, zCb_a7 hr, zCb_a8 hr, zCb_a9 hr, zCb_a10 hr, zCb_a11 hr]
    refine qBI.of (x_letPass hr h hw hs.2.2.1 j.2 (by omega) (by omega)) (by decide) (fun v σ1 g1 => ?_)
    rw [← ed] at g1
    exact bh v σ1 (by omega) (by omega) (by omega) g1
  · -- a dawn
    have e := hz.2.2.1 (by omega)
    rw [qJ_st _ _ _ _ _ (by rfl)]
    have ed : zdo W k s = (decide (0 < s.1 0 5 ∨ zpop (zopens s.1) < s.1 0 1), zsC s (zdawn s.1).1) := by unfold zdo; rw [if_neg (by omega), if_pos e]
    refine qV.go 30 [9999] ok_65 ?_
    simp only [qW_nop, qW_iconst, qW_iconstm, qW_iloadn, qW_iload, qW_aloadn, qW_istore, qW_iadd, qW_ifeq, qW_ifne, qW_ifle, qW_goto, qW_tsw, qW_getf, qW_iald, qW_iast, qW_cs1_0, qW_cs3_0, qW_cs4_0, qW_cv2_0, qW_cv3_0, qW_cv5_0, qW_iret0, Nat.reduceAdd, Nat.reduceMul, Nat.reduceBEq, Nat.reduceEqDiff, Nat.reduceLT, Nat.reduceLeDiff, Nat.zero_le, nI_add, nI_mul, nI_cl, qin_eq, qofI, qlg_0, qlg_s, qls_i0, qls_r0, qls_l0, qls_1, qls_2, qkl_i, qkl_r, qkl_l, qkl_n, qIsI_i, qIsL_l, qIsR_r, qint_i, qil_i, qil_r, qil_l, qf4_0, qf4_1, qf4_2, qf4_3, qf2_0, qf2_1, qcs_n, qcs_i, qcs_r, qcs_l, qst_n, qst_c, qJ_0, qJ_st, qJ_go, qfl_I, qfl_Z, qfl_L, qfl_R, qrI_i, qrL_l, qrV_v, qRcv_0, qRcv_s, eq_self, true_and, and_true, true_or, or_true, false_and, and_false, false_or, or_false, ite_true, if_true, if_false, Bool.true_or, Bool.false_or, Bool.or_false, beq_self_eq_true, Bool.false_eq_true, bX5_behindStep_0, bX5_behindStep_10, bX5_behindStep_112, bX5_behindStep_114, bX5_behindStep_126, bX5_behindStep_145, bX5_behindStep_153, bX5_behindStep_154, bX5_behindStep_167, bX5_behindStep_177, bX5_behindStep_194, bX5_behindStep_218, bX5_behindStep_219, bX5_behindStep_223, bX5_behindStep_237, bX5_behindStep_248, kX5_behindStep_0, kX5_behindStep_10, kX5_behindStep_112, kX5_behindStep_114, kX5_behindStep_126, kX5_behindStep_145, kX5_behindStep_153, kX5_behindStep_154, kX5_behindStep_167, kX5_behindStep_177, kX5_behindStep_194, kX5_behindStep_218, kX5_behindStep_219, kX5_behindStep_223, kX5_behindStep_237, kX5_behindStep_248, qK_80, qR_80_7, qK_81, zCb_k hr, zCb_6 hr, zCb_7 hr, zCb_8 hr, zCb_9 hr, zCb_10 hr, zCb_11 hr, zCb_12 hr, zCb_13 hr, zCb_14 hr, zCb_15 hr, zCb_16 hr, zCb_a1 hr, zCb_a2 hr, zCb_a3 hr, zCb_a4 hr, zCb_a5 hr, zCb_a6 hr, zCb_a7 hr, zCb_a8 hr, zCb_a9 hr, zCb_a10 hr, zCb_a11 hr]
    refine qBI.of (x_newDay hr h hw) (by decide) (fun v σ1 g1 => ?_)
    rw [← ed] at g1
    exact bh v σ1 (by omega) (by omega) (by omega) g1
  · -- a yield
    have e := hz.2.2.2.1 (by omega)
    rw [qJ_st _ _ _ _ _ (by rfl)]
    have ed : zdo W k s = (decide (0 < zpop (zof s.1 (W k 1))), zsC s (zgive s.1 (W k 1))) := by unfold zdo; rw [if_neg (by omega), if_neg (by omega), if_neg (by omega), if_pos e]
    have ea : zwa (W k) = W k 1 := if_neg (by omega)
    have j := hWk.2.2.2.1 e
    have hl := zof_lt hw (W k 1)
    have hp : zpop (zof s.1 (W k 1)) ≤ 10 := zpop_le (k := 10) (by omega)
    rw [ea]
    refine qV.go 30 [9999] ok_65 ?_
    simp only [qW_nop, qW_iconst, qW_iconstm, qW_iloadn, qW_iload, qW_aloadn, qW_istore, qW_iadd, qW_ifeq, qW_ifne, qW_ifle, qW_goto, qW_tsw, qW_getf, qW_iald, qW_iast, qW_cs1_0, qW_cs3_0, qW_cs4_0, qW_cv2_0, qW_cv3_0, qW_cv5_0, qW_iret0, Nat.reduceAdd, Nat.reduceMul, Nat.reduceBEq, Nat.reduceEqDiff, Nat.reduceLT, Nat.reduceLeDiff, Nat.zero_le, nI_add, nI_mul, nI_cl, qin_eq, qofI, qlg_0, qlg_s, qls_i0, qls_r0, qls_l0, qls_1, qls_2, qkl_i, qkl_r, qkl_l, qkl_n, qIsI_i, qIsL_l, qIsR_r, qint_i, qil_i, qil_r, qil_l, qf4_0, qf4_1, qf4_2, qf4_3, qf2_0, qf2_1, qcs_n, qcs_i, qcs_r, qcs_l, qst_n, qst_c, qJ_0, qJ_st, qJ_go, qfl_I, qfl_Z, qfl_L, qfl_R, qrI_i, qrL_l, qrV_v, qRcv_0, qRcv_s, eq_self, true_and, and_true, true_or, or_true, false_and, and_false, false_or, or_false, ite_true, if_true, if_false, Bool.true_or, Bool.false_or, Bool.or_false, beq_self_eq_true, Bool.false_eq_true, bX5_behindStep_0, bX5_behindStep_10, bX5_behindStep_112, bX5_behindStep_114, bX5_behindStep_126, bX5_behindStep_145, bX5_behindStep_153, bX5_behindStep_154, bX5_behindStep_167, bX5_behindStep_177, bX5_behindStep_194, bX5_behindStep_218, bX5_behindStep_219, bX5_behindStep_223, bX5_behindStep_237, bX5_behindStep_248, kX5_behindStep_0, kX5_behindStep_10, kX5_behindStep_112, kX5_behindStep_114, kX5_behindStep_126, kX5_behindStep_145, kX5_behindStep_153, kX5_behindStep_154, kX5_behindStep_167, kX5_behindStep_177, kX5_behindStep_194, kX5_behindStep_218, kX5_behindStep_219, kX5_behindStep_223, kX5_behindStep_237, kX5_behindStep_248, qK_80, qR_80_7, qK_81, zCb_k hr, zCb_6 hr, zCb_7 hr, zCb_8 hr, zCb_9 hr, zCb_10 hr, zCb_11 hr, zCb_12 hr, zCb_13 hr, zCb_14 hr, zCb_15 hr, zCb_16 hr, zCb_a1 hr, zCb_a2 hr, zCb_a3 hr, zCb_a4 hr, zCb_a5 hr, zCb_a6 hr, zCb_a7 hr, zCb_a8 hr, zCb_a9 hr, zCb_a10 hr, zCb_a11 hr]
    refine qBI.fn (x_hasBoy hr h.1.1 hw _) (by decide) ?_
    rw [zrg_k j (by omega)]
    simp (disch := omega) only [nI_leI, nI_ltI, nI_eq, nI_cl, qin_eq, nI_add, nI_mul, qb_z, qb_t, qb_f, nI_ne0', Nat.reduceAdd, Bool.false_eq_true, if_false, if_true, true_and, and_true, Nat.reduceEqDiff, not_true_eq_false, not_false_eq_true, false_implies, true_implies, ite_true, ite_false]
    refine qBI.of (x_giveIn hr h.1 hw j) (by decide) (fun v σ1 g1 => ?_)
    obtain ⟨rfl, X1, f1⟩ := g1
    rw [qle0, nI_t (by omega)]
    have nx : ∀ b : Bool, b = decide (0 < zpop (zof s.1 (W k 1))) → qBI 6 66 [qr 80, qi (nI k), qi (qb b)] σ1 (fun v σ' => zXbh r W k s σ v σ') := fun b hb => bh (qb b) σ1 (by omega) (by omega) (by omega) (by rw [ed]; exact ⟨by rw [hb], h.c hr f1 X1, zPlf_c f1⟩)
    exact ⟨fun g => nx false (by rw [decide_eq_false (by omega)]), fun g => nx true (by rw [decide_eq_true (by omega)])⟩
  · -- pitched elsewhere
    have e := hz.2.2.2.2.1 (by omega)
    rw [qJ_st _ _ _ _ _ (by rfl)]
    have ed : zdo W k s = (decide (s.1 1 (W k 1) ≠ W k 2), zsC s (zu s.1 1 (W k 1) (W k 2))) := by unfold zdo; rw [if_neg (by omega), if_neg (by omega), if_neg (by omega), if_neg (by omega), if_pos e]
    have ea : zwa (W k) = W k 1 := if_neg (by omega)
    have eb : zwb (W k) = W k 2 := by unfold zwb; rw [if_neg (by omega), if_neg (by omega)]
    have j := hWk.2.2.2.2.1 e
    rw [ea, eb]
    refine qV.go 30 [9999] ok_65 ?_
    simp only [qW_nop, qW_iconst, qW_iconstm, qW_iloadn, qW_iload, qW_aloadn, qW_istore, qW_iadd, qW_ifeq, qW_ifne, qW_ifle, qW_goto, qW_tsw, qW_getf, qW_iald, qW_iast, qW_cs1_0, qW_cs3_0, qW_cs4_0, qW_cv2_0, qW_cv3_0, qW_cv5_0, qW_iret0, Nat.reduceAdd, Nat.reduceMul, Nat.reduceBEq, Nat.reduceEqDiff, Nat.reduceLT, Nat.reduceLeDiff, Nat.zero_le, nI_add, nI_mul, nI_cl, qin_eq, qofI, qlg_0, qlg_s, qls_i0, qls_r0, qls_l0, qls_1, qls_2, qkl_i, qkl_r, qkl_l, qkl_n, qIsI_i, qIsL_l, qIsR_r, qint_i, qil_i, qil_r, qil_l, qf4_0, qf4_1, qf4_2, qf4_3, qf2_0, qf2_1, qcs_n, qcs_i, qcs_r, qcs_l, qst_n, qst_c, qJ_0, qJ_st, qJ_go, qfl_I, qfl_Z, qfl_L, qfl_R, qrI_i, qrL_l, qrV_v, qRcv_0, qRcv_s, eq_self, true_and, and_true, true_or, or_true, false_and, and_false, false_or, or_false, ite_true, if_true, if_false, Bool.true_or, Bool.false_or, Bool.or_false, beq_self_eq_true, Bool.false_eq_true, bX5_behindStep_0, bX5_behindStep_10, bX5_behindStep_112, bX5_behindStep_114, bX5_behindStep_126, bX5_behindStep_145, bX5_behindStep_153, bX5_behindStep_154, bX5_behindStep_167, bX5_behindStep_177, bX5_behindStep_194, bX5_behindStep_218, bX5_behindStep_219, bX5_behindStep_223, bX5_behindStep_237, bX5_behindStep_248, kX5_behindStep_0, kX5_behindStep_10, kX5_behindStep_112, kX5_behindStep_114, kX5_behindStep_126, kX5_behindStep_145, kX5_behindStep_153, kX5_behindStep_154, kX5_behindStep_167, kX5_behindStep_177, kX5_behindStep_194, kX5_behindStep_218, kX5_behindStep_219, kX5_behindStep_223, kX5_behindStep_237, kX5_behindStep_248, qK_80, qR_80_7, qK_81, zCb_k hr, zCb_6 hr, zCb_7 hr, zCb_8 hr, zCb_9 hr, zCb_10 hr, zCb_11 hr, zCb_12 hr, zCb_13 hr, zCb_14 hr, zCb_15 hr, zCb_16 hr, zCb_a1 hr, zCb_a2 hr, zCb_a3 hr, zCb_a4 hr, zCb_a5 hr, zCb_a6 hr, zCb_a7 hr, zCb_a8 hr, zCb_a9 hr, zCb_a10 hr, zCb_a11 hr]
    refine qBI.of (x_moveTo hr h hw j.1 j.2) (by decide) (fun v σ1 g1 => ?_)
    rw [← ed] at g1
    exact bh v σ1 (by omega) (by omega) (by omega) g1
  · -- any
    have e := hz.2.2.2.2.2.1 (by omega)
    rw [qJ_st _ _ _ _ _ (by rfl)]
    have ed : zdo W k s = zany s := by unfold zdo; rw [if_neg (by omega), if_neg (by omega), if_neg (by omega), if_neg (by omega), if_neg (by omega), if_pos e]
    refine qV.go 30 [9999] ok_65 ?_
    simp only [qW_nop, qW_iconst, qW_iconstm, qW_iloadn, qW_iload, qW_aloadn, qW_istore, qW_iadd, qW_ifeq, qW_ifne, qW_ifle, qW_goto, qW_tsw, qW_getf, qW_iald, qW_iast, qW_cs1_0, qW_cs3_0, qW_cs4_0, qW_cv2_0, qW_cv3_0, qW_cv5_0, qW_iret0, Nat.reduceAdd, Nat.reduceMul, Nat.reduceBEq, Nat.reduceEqDiff, Nat.reduceLT, Nat.reduceLeDiff, Nat.zero_le, nI_add, nI_mul, nI_cl, qin_eq, qofI, qlg_0, qlg_s, qls_i0, qls_r0, qls_l0, qls_1, qls_2, qkl_i, qkl_r, qkl_l, qkl_n, qIsI_i, qIsL_l, qIsR_r, qint_i, qil_i, qil_r, qil_l, qf4_0, qf4_1, qf4_2, qf4_3, qf2_0, qf2_1, qcs_n, qcs_i, qcs_r, qcs_l, qst_n, qst_c, qJ_0, qJ_st, qJ_go, qfl_I, qfl_Z, qfl_L, qfl_R, qrI_i, qrL_l, qrV_v, qRcv_0, qRcv_s, eq_self, true_and, and_true, true_or, or_true, false_and, and_false, false_or, or_false, ite_true, if_true, if_false, Bool.true_or, Bool.false_or, Bool.or_false, beq_self_eq_true, Bool.false_eq_true, bX5_behindStep_0, bX5_behindStep_10, bX5_behindStep_112, bX5_behindStep_114, bX5_behindStep_126, bX5_behindStep_145, bX5_behindStep_153, bX5_behindStep_154, bX5_behindStep_167, bX5_behindStep_177, bX5_behindStep_194, bX5_behindStep_218, bX5_behindStep_219, bX5_behindStep_223, bX5_behindStep_237, bX5_behindStep_248, kX5_behindStep_0, kX5_behindStep_10, kX5_behindStep_112, kX5_behindStep_114, kX5_behindStep_126, kX5_behindStep_145, kX5_behindStep_153, kX5_behindStep_154, kX5_behindStep_167, kX5_behindStep_177, kX5_behindStep_194, kX5_behindStep_218, kX5_behindStep_219, kX5_behindStep_223, kX5_behindStep_237, kX5_behindStep_248, qK_80, qR_80_7, qK_81, zCb_k hr, zCb_6 hr, zCb_7 hr, zCb_8 hr, zCb_9 hr, zCb_10 hr, zCb_11 hr, zCb_12 hr, zCb_13 hr, zCb_14 hr, zCb_15 hr, zCb_16 hr, zCb_a1 hr, zCb_a2 hr, zCb_a3 hr, zCb_a4 hr, zCb_a5 hr, zCb_a6 hr, zCb_a7 hr, zCb_a8 hr, zCb_a9 hr, zCb_a10 hr, zCb_a11 hr]
    refine qBI.of (x_drawQuarrel hr h hw hs.2.2.2.1) (by decide) (fun v σ1 g1 => ?_)
    rw [← ed] at g1
    exact bh v σ1 (by omega) (by omega) (by omega) g1
  · -- when
    have e := hz.2.2.2.2.2.2.1 (by omega)
    rw [qJ_st _ _ _ _ _ (by rfl)]
    have ed : zdo W k s = (true, s) := by unfold zdo; rw [if_neg (by omega), if_neg (by omega), if_neg (by omega), if_neg (by omega), if_neg (by omega), if_neg (by omega)]
    have em : σ.1 79 k = nI (W k 4) := v5 (Or.inr ⟨Or.inr e, by have := (hWk.2.2.2.2.2.2.2.2.1 (Or.inr e)).1; omega⟩)
    have b4 := (hWk.2.2.2.2.2.2.2.2.1 (Or.inr e)).2.1
    have eZ : zbeh W k (zdo W k s) = zsR (zsR s 0 (s.2.2 0)) 7 (if 1500 ≤ W k 0 ∧ zholds W k s.1 = false then W k 4 + 1 else k + 1) := by
      rw [ed]
      unfold zbeh
      rw [if_neg (by omega)]
      rfl
    have fin : ∀ v, v = nI ((zbeh W k (zdo W k s)).2.2 7) → zXbh r W k s σ v σ := by
      intro v hv
      unfold zXbh
      rw [if_neg (by omega)]
      refine ⟨hv, ?_, zF.rf⟩
      rw [eZ, zsR_id]
      exact h.k (by decide)
    rw [eZ, zsR_e] at fin
    refine qV.go 30 [9999] ok_65 ?_
    simp only [qW_nop, qW_iconst, qW_iconstm, qW_iloadn, qW_iload, qW_aloadn, qW_istore, qW_iadd, qW_ifeq, qW_ifne, qW_ifle, qW_goto, qW_tsw, qW_getf, qW_iald, qW_iast, qW_cs1_0, qW_cs3_0, qW_cs4_0, qW_cv2_0, qW_cv3_0, qW_cv5_0, qW_iret0, Nat.reduceAdd, Nat.reduceMul, Nat.reduceBEq, Nat.reduceEqDiff, Nat.reduceLT, Nat.reduceLeDiff, Nat.zero_le, nI_add, nI_mul, nI_cl, qin_eq, qofI, qlg_0, qlg_s, qls_i0, qls_r0, qls_l0, qls_1, qls_2, qkl_i, qkl_r, qkl_l, qkl_n, qIsI_i, qIsL_l, qIsR_r, qint_i, qil_i, qil_r, qil_l, qf4_0, qf4_1, qf4_2, qf4_3, qf2_0, qf2_1, qcs_n, qcs_i, qcs_r, qcs_l, qst_n, qst_c, qJ_0, qJ_st, qJ_go, qfl_I, qfl_Z, qfl_L, qfl_R, qrI_i, qrL_l, qrV_v, qRcv_0, qRcv_s, eq_self, true_and, and_true, true_or, or_true, false_and, and_false, false_or, or_false, ite_true, if_true, if_false, Bool.true_or, Bool.false_or, Bool.or_false, beq_self_eq_true, Bool.false_eq_true, bX5_behindStep_0, bX5_behindStep_10, bX5_behindStep_112, bX5_behindStep_114, bX5_behindStep_126, bX5_behindStep_145, bX5_behindStep_153, bX5_behindStep_154, bX5_behindStep_167, bX5_behindStep_177, bX5_behindStep_194, bX5_behindStep_218, bX5_behindStep_219, bX5_behindStep_223, bX5_behindStep_237, bX5_behindStep_248, kX5_behindStep_0, kX5_behindStep_10, kX5_behindStep_112, kX5_behindStep_114, kX5_behindStep_126, kX5_behindStep_145, kX5_behindStep_153, kX5_behindStep_154, kX5_behindStep_167, kX5_behindStep_177, kX5_behindStep_194, kX5_behindStep_218, kX5_behindStep_219, kX5_behindStep_223, kX5_behindStep_237, kX5_behindStep_248, qK_80, qR_80_7, qK_81, qK_74, qR_74_3, qK_75, qR_74_4, qK_76, qR_74_5, qK_77, qR_74_6, qK_78, qR_74_7, qK_79, zCb_k hr, zCb_6 hr, zCb_7 hr, zCb_8 hr, zCb_9 hr, zCb_10 hr, zCb_11 hr, zCb_12 hr, zCb_13 hr, zCb_14 hr, zCb_15 hr, zCb_16 hr, zCb_a1 hr, zCb_a2 hr, zCb_a3 hr, zCb_a4 hr, zCb_a5 hr, zCb_a6 hr, zCb_a7 hr, zCb_a8 hr, zCb_a9 hr, zCb_a10 hr, zCb_a11 hr]
    refine qBI.fn (x_holdsL hr h.1.1 hw hs.2.2.1 hWk e) (by decide) ?_
    simp (disch := omega) only [nI_leI, nI_ltI, nI_eq, nI_cl, qin_eq, nI_add, nI_mul, qb_z, qb_t, qb_f, nI_ne0', Nat.reduceAdd, Bool.false_eq_true, if_false, if_true, true_and, and_true, Nat.reduceEqDiff, not_true_eq_false, not_false_eq_true, false_implies, true_implies, ite_true, ite_false]
    rw [em]
    simp only [nI_add]
    refine ⟨fun g => fin _ (by rw [if_pos ⟨e, g⟩]), fun g => fin _ (by rw [if_neg (fun hh => g hh.2)])⟩
  · -- a loop
    have e := hz.2.2.2.2.2.2.2.1.mp (by omega)
    rw [qJ_st _ _ _ _ _ (by rfl)]
    have ed : zdo W k s = (true, s) := by unfold zdo; rw [if_neg (by omega), if_neg (by omega), if_neg (by omega), if_neg (by omega), if_neg (by omega), if_neg (by omega)]
    have ea : zwa (W k) = W k 1 := if_neg (by omega)
    have eZ : zbeh W k (zdo W k s) = zsR (zsR (zsL s k (W k 1)) 0 ((zsL s k (W k 1)).2.2 0)) 7 (k + 1) := by
      rw [ed]
      unfold zbeh
      rw [if_pos e, show (if 1500 ≤ W k 0 ∧ zholds W k (true, s).2.1 = false then W k 4 + 1 else k + 1) = k + 1 from if_neg (fun hh => by have := hh.1; omega)]
      rfl
    rw [ea]
    refine qV.go 30 [9999] ok_65 ?_
    simp only [qW_nop, qW_iconst, qW_iconstm, qW_iloadn, qW_iload, qW_aloadn, qW_istore, qW_iadd, qW_ifeq, qW_ifne, qW_ifle, qW_goto, qW_tsw, qW_getf, qW_iald, qW_iast, qW_cs1_0, qW_cs3_0, qW_cs4_0, qW_cv2_0, qW_cv3_0, qW_cv5_0, qW_iret0, Nat.reduceAdd, Nat.reduceMul, Nat.reduceBEq, Nat.reduceEqDiff, Nat.reduceLT, Nat.reduceLeDiff, Nat.zero_le, nI_add, nI_mul, nI_cl, qin_eq, qofI, qlg_0, qlg_s, qls_i0, qls_r0, qls_l0, qls_1, qls_2, qkl_i, qkl_r, qkl_l, qkl_n, qIsI_i, qIsL_l, qIsR_r, qint_i, qil_i, qil_r, qil_l, qf4_0, qf4_1, qf4_2, qf4_3, qf2_0, qf2_1, qcs_n, qcs_i, qcs_r, qcs_l, qst_n, qst_c, qJ_0, qJ_st, qJ_go, qfl_I, qfl_Z, qfl_L, qfl_R, qrI_i, qrL_l, qrV_v, qRcv_0, qRcv_s, eq_self, true_and, and_true, true_or, or_true, false_and, and_false, false_or, or_false, ite_true, if_true, if_false, Bool.true_or, Bool.false_or, Bool.or_false, beq_self_eq_true, Bool.false_eq_true, bX5_behindStep_0, bX5_behindStep_10, bX5_behindStep_112, bX5_behindStep_114, bX5_behindStep_126, bX5_behindStep_145, bX5_behindStep_153, bX5_behindStep_154, bX5_behindStep_167, bX5_behindStep_177, bX5_behindStep_194, bX5_behindStep_218, bX5_behindStep_219, bX5_behindStep_223, bX5_behindStep_237, bX5_behindStep_248, kX5_behindStep_0, kX5_behindStep_10, kX5_behindStep_112, kX5_behindStep_114, kX5_behindStep_126, kX5_behindStep_145, kX5_behindStep_153, kX5_behindStep_154, kX5_behindStep_167, kX5_behindStep_177, kX5_behindStep_194, kX5_behindStep_218, kX5_behindStep_219, kX5_behindStep_223, kX5_behindStep_237, kX5_behindStep_248, qK_80, qR_80_7, qK_81, zCb_k hr, zCb_6 hr, zCb_7 hr, zCb_8 hr, zCb_9 hr, zCb_10 hr, zCb_11 hr, zCb_12 hr, zCb_13 hr, zCb_14 hr, zCb_15 hr, zCb_16 hr, zCb_a1 hr, zCb_a2 hr, zCb_a3 hr, zCb_a4 hr, zCb_a5 hr, zCb_a6 hr, zCb_a7 hr, zCb_a8 hr, zCb_a9 hr, zCb_a10 hr, zCb_a11 hr]
    simp (disch := omega) only [nI_leI, nI_ltI, nI_eq, nI_cl, qin_eq, nI_add, nI_mul, qb_z, qb_t, qb_f, nI_ne0', Nat.reduceAdd, Bool.false_eq_true, if_false, if_true, true_and, and_true, Nat.reduceEqDiff, not_true_eq_false, not_false_eq_true, false_implies, true_implies, ite_true, ite_false]
    unfold zXbh
    rw [if_neg (by omega), eZ, zsR_e, zsR_id]
    refine ⟨rfl, ?_, zF.wi (Or.inr (Or.inr rfl))⟩
    exact (h.l hr).k (by decide)
  · -- a stop
    have e := hz.2.2.2.2.2.2.2.2.2.1 (by omega)
    rw [qJ_st _ _ _ _ _ (by rfl)]
    refine qV.go 30 [9999] ok_65 ?_
    simp only [qW_nop, qW_iconst, qW_iconstm, qW_iloadn, qW_iload, qW_aloadn, qW_istore, qW_iadd, qW_ifeq, qW_ifne, qW_ifle, qW_goto, qW_tsw, qW_getf, qW_iald, qW_iast, qW_cs1_0, qW_cs3_0, qW_cs4_0, qW_cv2_0, qW_cv3_0, qW_cv5_0, qW_iret0, Nat.reduceAdd, Nat.reduceMul, Nat.reduceBEq, Nat.reduceEqDiff, Nat.reduceLT, Nat.reduceLeDiff, Nat.zero_le, nI_add, nI_mul, nI_cl, qin_eq, qofI, qlg_0, qlg_s, qls_i0, qls_r0, qls_l0, qls_1, qls_2, qkl_i, qkl_r, qkl_l, qkl_n, qIsI_i, qIsL_l, qIsR_r, qint_i, qil_i, qil_r, qil_l, qf4_0, qf4_1, qf4_2, qf4_3, qf2_0, qf2_1, qcs_n, qcs_i, qcs_r, qcs_l, qst_n, qst_c, qJ_0, qJ_st, qJ_go, qfl_I, qfl_Z, qfl_L, qfl_R, qrI_i, qrL_l, qrV_v, qRcv_0, qRcv_s, eq_self, true_and, and_true, true_or, or_true, false_and, and_false, false_or, or_false, ite_true, if_true, if_false, Bool.true_or, Bool.false_or, Bool.or_false, beq_self_eq_true, Bool.false_eq_true, bX5_behindStep_0, bX5_behindStep_10, bX5_behindStep_112, bX5_behindStep_114, bX5_behindStep_126, bX5_behindStep_145, bX5_behindStep_153, bX5_behindStep_154, bX5_behindStep_167, bX5_behindStep_177, bX5_behindStep_194, bX5_behindStep_218, bX5_behindStep_219, bX5_behindStep_223, bX5_behindStep_237, bX5_behindStep_248, kX5_behindStep_0, kX5_behindStep_10, kX5_behindStep_112, kX5_behindStep_114, kX5_behindStep_126, kX5_behindStep_145, kX5_behindStep_153, kX5_behindStep_154, kX5_behindStep_167, kX5_behindStep_177, kX5_behindStep_194, kX5_behindStep_218, kX5_behindStep_219, kX5_behindStep_223, kX5_behindStep_237, kX5_behindStep_248, qK_80, qR_80_7, qK_81]
    unfold zXbh
    rw [if_pos e]
    exact ⟨rfl, rfl⟩
set_option maxRecDepth 20000 in
theorem x_behindEnd {σ : qSg} {r n st k : Nat} {W : Nat → Nat → Nat} {s : zL} (hr : zCb r) (h : zXl σ r s) (hV : zXW σ 74 W n st) (hs : zLW W n s) (hk : k < n) (ek : s.2.2 7 = k) (h17 : W k 0 = 17) : qCI 2 64 [qr 80, qr 74, qi (nI k)] σ (fun v σ' => v = nI ((zendm W s).2.2 7) ∧ zXl σ' r (zendm W s) ∧ zF (zPlf r) σ σ') := by
  have hn := hs.2.1.1
  have hWk := hs.2.1.2.1 k hk
  have hL := hs.2.2.2.2.2.2.2.2.2.2.1
  have hL1 := hs.2.2.2.2.2.2.2.2.2.2.2.2
  obtain ⟨-, -, -, -, -, -, -, -, -, kd⟩ := hWk
  obtain ⟨d1, d2, d3⟩ := kd h17
  have em : σ.1 79 k = nI (W k 4) := (hV.2.2 k hk).2.2.2.2 (Or.inl h17)
  have hz := zwk_v (hs.2.1.2.1 (W k 4) (by omega))
  have eo : σ.1 75 (W k 4) = nI (zwk (W (W k 4))) := (hV.2.2 (W k 4) (by omega)).1
  have eE : zendm W s = if W (W k 4) 0 = 16 then zsR (zsL s (W k 4) (s.2.1 (W k 4) - 1)) 7 (if 2 ≤ s.2.1 (W k 4) then W k 4 + 1 else k + 1) else zsR s 7 (k + 1) := by
    unfold zendm
    rw [ek]
  have l99 := hL (W k 4)
  refine qCI.of [some (qr 80), some (qr 74), some (qi (nI k)), none] ok_64 (Nat.le_of_ble_eq_true rfl) rfl ?_
  refine qV.go 30 [9999] ok_64 ?_
  simp only [qW_nop, qW_iconst, qW_iconstm, qW_bipush, qW_iloadn, qW_aloadn, qW_istoren, qW_iadd, qW_isub, qW_dup2, qW_ifeq, qW_iceq, qW_ifle, qW_goto, qW_getf, qW_iald, qW_iast, qW_cv2_0, qW_iret0, Nat.reduceAdd, Nat.reduceMul, Nat.reduceBEq, Nat.reduceEqDiff, Nat.reduceLT, Nat.reduceLeDiff, Nat.zero_le, nI_add, nI_mul, nI_cl, qin_eq, qofI, qlg_0, qlg_s, qls_i0, qls_r0, qls_l0, qls_1, qls_2, qkl_i, qkl_r, qkl_l, qkl_n, qIsI_i, qIsL_l, qIsR_r, qint_i, qil_i, qil_r, qil_l, qf4_0, qf4_1, qf4_2, qf4_3, qf2_0, qf2_1, qcs_n, qcs_i, qcs_r, qcs_l, qst_n, qst_c, qJ_0, qJ_st, qJ_go, qfl_I, qfl_Z, qfl_L, qfl_R, qrI_i, qrL_l, qrV_v, qRcv_0, qRcv_s, eq_self, true_and, and_true, true_or, or_true, false_and, and_false, false_or, or_false, ite_true, if_true, if_false, Bool.true_or, Bool.false_or, Bool.or_false, beq_self_eq_true, Bool.false_eq_true, bX5_behindEnd_0, bX5_behindEnd_17, bX5_behindEnd_18, bX5_behindEnd_38, bX5_behindEnd_42, bX5_behindEnd_67, bX5_behindEnd_70, kX5_behindEnd_0, kX5_behindEnd_17, kX5_behindEnd_18, kX5_behindEnd_38, kX5_behindEnd_42, kX5_behindEnd_67, kX5_behindEnd_70, qK_80, qR_80_7, qK_81, qK_74, qR_74_3, qK_75, qR_74_4, qK_76, qR_74_5, qK_77, qR_74_6, qK_78, qR_74_7, qK_79]
  refine qBI.fn (x_hasLine (Or.inr (Or.inl rfl)) hV.1 hn _) (by decide) ?_
  rw [zrg_k hk (by omega)]
  simp (disch := omega) only [nI_leI, nI_ltI, nI_eq, nI_cl, qin_eq, nI_add, nI_mul, qb_z, qb_t, qb_f, nI_ne0', Nat.reduceAdd, Bool.false_eq_true, if_false, if_true, true_and, and_true, Nat.reduceEqDiff, not_true_eq_false, not_false_eq_true, false_implies, true_implies, ite_true, ite_false]
  rw [em]
  refine qBI.fn (x_hasLine (Or.inr (Or.inl rfl)) hV.1 hn _) (by decide) ?_
  rw [zrg_k (show W k 4 < n by omega) (by omega), nI_cl (by omega), eo]
  generalize hoo : W k 4 = o at *
  have bo := hz.lt
  simp (disch := omega) only [nI_leI, nI_ltI, nI_eq, nI_cl, qin_eq, nI_add, nI_mul, qb_z, qb_t, qb_f, nI_ne0', Nat.reduceAdd, Bool.false_eq_true, if_false, if_true, true_and, and_true, Nat.reduceEqDiff, not_true_eq_false, not_false_eq_true, false_implies, true_implies, ite_true, ite_false]
  refine ⟨fun g => ?_, fun g => ?_⟩
  · have e16 := hz.2.2.2.2.2.2.2.1.mp g
    rw [if_pos e16] at eE
    have l1 := hL1 o (by omega) e16 (by omega) (by omega)
    have lo : σ.1 81 o = nI (s.2.1 o) := h.2.2 o (by omega)
    rw [lo, nI_sub l1]
    have k2 : (qwi σ 81 o (nI (s.2.1 o - 1))).1 81 o = nI (s.2.1 o - 1) := by rw [qwi_1, if_pos ⟨rfl, rfl⟩]
    rw [k2, qle0, nI_t (by omega)]
    rw [eE, zsR_e]
    have X := (h.l (o := o) (v := s.2.1 o - 1) hr).k (j := 7) (v := if 2 ≤ s.2.1 o then o + 1 else k + 1) (by decide)
    have F : zF (zPlf r) σ (qwi σ 81 o (nI (s.2.1 o - 1))) := zF.wi (Or.inr (Or.inr rfl))
    refine ⟨fun g2 => ⟨?_, X, F⟩, fun g2 => ⟨?_, X, F⟩⟩
    · rw [if_neg (by omega)]
    · rw [if_pos (by omega)]
  · have e16 : W o 0 ≠ 16 := fun hh => g (hz.2.2.2.2.2.2.2.1.mpr hh)
    rw [if_neg e16] at eE
    rw [eE, zsR_e]
    exact ⟨rfl, h.k (by decide), zF.rf⟩
