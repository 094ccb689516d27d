/-! the class: a life; what its lines do -/
def zXl (σ : qSg) (r : Nat) (s : zL) : Prop :=
  zX σ r s.1 ∧ (σ.1 80 0 = nI (s.2.2 5) ∧ σ.1 80 1 = nI (s.2.2 0) ∧ σ.1 80 2 = nI (s.2.2 1) ∧ σ.1 80 3 = nI (s.2.2 2) ∧ σ.1 80 4 = nI (s.2.2 3) ∧ σ.1 80 5 = nI (s.2.2 4) ∧ σ.1 80 6 = nI (s.2.2 6)) ∧ ∀ j, j < 60 → σ.1 81 j = nI (s.2.1 j)
/-- where a register lies -/
def zrm (i j : Nat) : Prop := (i = 0 ∧ j = 5) ∨ (i = 1 ∧ j = 0) ∨ (i = 2 ∧ j = 1) ∨ (i = 3 ∧ j = 2) ∨ (i = 4 ∧ j = 3) ∨ (i = 5 ∧ j = 4) ∨ (i = 6 ∧ j = 6)
theorem zXl.rg {σ : qSg} {r : Nat} {s : zL} (h : zXl σ r s) {i j : Nat} (hij : zrm i j) : σ.1 80 i = nI (s.2.2 j) := by
  obtain ⟨-, ⟨h0, h1, h2, h3, h4, h5, h6⟩, -⟩ := h
  rcases hij with ⟨rfl, rfl⟩ | ⟨rfl, rfl⟩ | ⟨rfl, rfl⟩ | ⟨rfl, rfl⟩ | ⟨rfl, rfl⟩ | ⟨rfl, rfl⟩ | ⟨rfl, rfl⟩ <;> assumption
theorem zXl.mk {σ : qSg} {r : Nat} {s : zL} (h : zX σ r s.1) (h1 : ∀ i j, zrm i j → σ.1 80 i = nI (s.2.2 j)) (h2 : ∀ j, j < 60 → σ.1 81 j = nI (s.2.1 j)) : zXl σ r s :=
  ⟨h, ⟨h1 0 5 (by unfold zrm; omega), h1 1 0 (by unfold zrm; omega), h1 2 1 (by unfold zrm; omega), h1 3 2 (by unfold zrm; omega), h1 4 3 (by unfold zrm; omega), h1 5 4 (by unfold zrm; omega), h1 6 6 (by unfold zrm; omega)⟩, h2⟩
def zPlf (r a j : Nat) : Prop := zXf r a j ∨ (a = 80 ∧ j ≤ 6) ∨ a = 81
theorem zXl.r {σ : qSg} {r : Nat} {s : zL} (h : zXl σ r s) (hr : zCb r) {i j v : Nat} (hij : zrm i j) : zXl (qwi σ 80 i (nI v)) r (zsR s j v) := by
  refine zXl.mk (h.1.fr fun a k h1 h2 => ?_) (fun i' j' hij' => ?_) (fun k hk => ?_)
  · unfold zCb at hr
    rw [qwi_1, if_neg (by omega)]
  · rw [qwi_1]
    by_cases e : i' = i
    · have e2 : j' = j := by unfold zrm at hij hij'; omega
      rw [if_pos ⟨rfl, e⟩, e2, zsR_e]
    · have e2 : ¬ j' = j := by unfold zrm at hij hij'; omega
      rw [if_neg (by omega), zsR_n e2]
      exact h.rg hij'
  · rw [qwi_1, if_neg (by omega)]
    exact h.2.2 k hk
theorem zXl.k {σ : qSg} {r : Nat} {s : zL} (h : zXl σ r s) {j v : Nat} (hj : 7 ≤ j) : zXl σ r (zsR s j v) :=
  zXl.mk h.1 (fun i' j' hij' => by rw [zsR_n (by unfold zrm at hij'; omega)]; exact h.rg hij') h.2.2
theorem zXl.c {σ σ' : qSg} {r : Nat} {s : zL} {C : zC} (h : zXl σ r s) (hr : zCb r) (f : zF (zXf r) σ σ') (hX : zX σ' r C) : zXl σ' r (zsC s C) :=
  zXl.mk hX (fun i' j' hij' => by rw [f.1 _ _ (by unfold zXf; unfold zCb at hr; omega)]; exact h.rg hij') (fun k hk => by rw [f.1 _ _ (by unfold zXf; unfold zCb at hr; omega)]; exact h.2.2 k hk)
theorem zXl.l {σ : qSg} {r : Nat} {s : zL} {o v : Nat} (h : zXl σ r s) (hr : zCb r) : zXl (qwi σ 81 o (nI v)) r (zsL s o v) := by
  refine zXl.mk (h.1.fr fun a k h1 h2 => ?_) (fun i' j' hij' => ?_) (fun k hk => ?_)
  · unfold zCb at hr
    rw [qwi_1, if_neg (by omega)]
  · rw [qwi_1, if_neg (by omega)]
    exact h.rg hij'
  · rw [qwi_1, zsL_L]
    by_cases e : k = o
    · rw [if_pos ⟨rfl, e⟩, e, zn_eq]
    · rw [if_neg (by omega), zn_ne e]
      exact h.2.2 k hk
theorem zPlf_r {σ : qSg} {r i : Nat} {x : Int32} (h : i ≤ 6) : zF (zPlf r) σ (qwi σ 80 i x) := zF.wi (Or.inr (Or.inl ⟨rfl, h⟩))
theorem zPlf_c {σ σ' : qSg} {r : Nat} (f : zF (zXf r) σ σ') : zF (zPlf r) σ σ' := f.wk fun _ _ h => Or.inl h
def zXdo (r : Nat) (σ : qSg) (q : Bool × zL) (x : Int32) (σ' : qSg) : Prop := x = qb q.1 ∧ zXl σ' r q.2 ∧ zF (zPlf r) σ σ'
set_option maxRecDepth 20000 in
theorem x_drawBy {σ : qSg} {d m : Nat} (h : σ.1 80 6 = nI d) (hd : d < 65536) (hm : 0 < m) (hm2 : m < 1000) : qCI 1 73 [qr 80, qi (nI m)] σ (fun v σ' => v = nI (zdr d / 8 % m) ∧ σ' = qwi σ 80 6 (nI (zdr d))) := by
  have hz := Nat.mod_lt (d * 3187 + 11411) (show 0 < 65536 by decide)
  refine qCI.of [some (qr 80), some (qi (nI m))] ok_73 (Nat.le_of_ble_eq_true rfl) rfl ?_
  refine qV.go 30 [9999] ok_73 ?_
  simp only [qW_nop, qW_iconst, qW_bipush, qW_sipush, qW_ldc, qW_iloadn, qW_aloadn, qW_iadd, qW_imul, qW_idiv, qW_irem, qW_icge, qW_goto, qW_getf, qW_iret0, qW_putf0, Nat.reduceAdd, Nat.reduceMul, Nat.reduceBEq, Nat.reduceEqDiff, Nat.reduceLT, Nat.reduceLeDiff, Nat.zero_le, nI_add, nI_mul, nI_cl, qin_eq, qofI, qlg_0, qlg_s, qls_i0, qls_r0, qls_l0, qls_1, qls_2, qkl_i, qkl_r, qkl_l, qkl_n, qIsI_i, qIsL_l, qIsR_r, qint_i, qil_i, qil_r, qil_l, qf4_0, qf4_1, qf4_2, qf4_3, qf2_0, qf2_1, qcs_n, qcs_i, qcs_r, qcs_l, qst_n, qst_c, qJ_0, qJ_st, qJ_go, qfl_I, qfl_Z, qfl_L, qfl_R, qrI_i, qrL_l, qrV_v, qRcv_0, qRcv_s, eq_self, true_and, and_true, true_or, or_true, false_and, and_false, false_or, or_false, ite_true, if_true, if_false, Bool.true_or, Bool.false_or, Bool.or_false, beq_self_eq_true, Bool.false_eq_true, bX5_drawBy_0, bX5_drawBy_28, bX5_drawBy_37, kX5_drawBy_0, kX5_drawBy_28, kX5_drawBy_37, qK_80, qR_80_7, qK_81]
  rw [h, nI_mul, nI_add, nI_rem (by omega) (by decide) (by decide)]
  have e : (d * 3187 + 11411) % 65536 = zdr d := rfl
  rw [e] at hz ⊢
  have k : (qwi σ 80 6 (nI (zdr d))).1 80 6 = nI (zdr d) := by rw [qwi_1, if_pos ⟨rfl, rfl⟩]
  rw [k, nI_div (by omega) (by decide) (by decide), nI_rem (by omega) (by omega) hm]
  simp (disch := omega) only [nI_leI, nI_ltI, nI_eq, nI_cl, qin_eq, nI_add, nI_mul, qb_z, qb_t, qb_f, nI_ne0', Nat.reduceAdd, Bool.false_eq_true, if_false, if_true, true_and, and_true, Nat.reduceEqDiff, not_true_eq_false, not_false_eq_true, false_implies, true_implies, ite_true, ite_false]
  exact ⟨fun g => by omega, fun g => by omega⟩
set_option maxRecDepth 20000 in
theorem x_fallOut {σ : qSg} {r : Nat} {s : zL} (hr : zCb r) (h : zXl σ r s) (hw : zW s.1) {a b g : Nat} (ha : a < s.1 0 0) (hb : b < s.1 0 0) : qCI 2 70 [qr 80, qr r, qi (nI a), qi (nI b), qi (nI g)] σ (zXdo r σ (zfall s a b g)) := by
  have wb := hw.1
  have wq := hw.2.1
  refine qCI.of [some (qr 80), some (qr r), some (qi (nI a)), some (qi (nI b)), some (qi (nI g)), none] ok_70 (Nat.le_of_ble_eq_true rfl) rfl ?_
  have no : ¬ (a ≠ b ∧ s.1 0 1 < 10) → qV 70 2 (.inl (zXdo r σ (zfall s a b g))) 45 [some (qr 80), some (qr r), some (qi (nI a)), some (qi (nI b)), some (qi (nI g)), some (qi (nI 1))] [] σ := by
    intro e
    refine qV.go 30 [9999] ok_70 ?_
    simp only [qW_nop, qW_iconst, qW_iconstm, qW_iloadn, qW_iload, qW_aloadn, qW_istore, qW_iadd, qW_dup, qW_ifeq, qW_iceq, qW_icne, qW_goto, qW_getf, qW_cv2_0, qW_cv4_0, qW_iret1, qW_putf0, Nat.reduceAdd, Nat.reduceMul, Nat.reduceBEq, Nat.reduceEqDiff, Nat.reduceLT, Nat.reduceLeDiff, Nat.zero_le, nI_add, nI_mul, nI_cl, qin_eq, qofI, qlg_0, qlg_s, qls_i0, qls_r0, qls_l0, qls_1, qls_2, qkl_i, qkl_r, qkl_l, qkl_n, qIsI_i, qIsL_l, qIsR_r, qint_i, qil_i, qil_r, qil_l, qf4_0, qf4_1, qf4_2, qf4_3, qf2_0, qf2_1, qcs_n, qcs_i, qcs_r, qcs_l, qst_n, qst_c, qJ_0, qJ_st, qJ_go, qfl_I, qfl_Z, qfl_L, qfl_R, qrI_i, qrL_l, qrV_v, qRcv_0, qRcv_s, eq_self, true_and, and_true, true_or, or_true, false_and, and_false, false_or, or_false, ite_true, if_true, if_false, Bool.true_or, Bool.false_or, Bool.or_false, beq_self_eq_true, Bool.false_eq_true, bX5_fallOut_0, bX5_fallOut_20, bX5_fallOut_21, bX5_fallOut_45, bX5_fallOut_47, kX5_fallOut_0, kX5_fallOut_20, kX5_fallOut_21, kX5_fallOut_45, kX5_fallOut_47, qK_80, qR_80_7, qK_81, zCb_k hr, zCb_6 hr, zCb_7 hr, zCb_8 hr, zCb_9 hr, zCb_10 hr, zCb_11 hr, zCb_12 hr, zCb_13 hr, zCb_14 hr, zCb_15 hr, zCb_16 hr, zCb_a1 hr, zCb_a2 hr, zCb_a3 hr, zCb_a4 hr, zCb_a5 hr, zCb_a6 hr, zCb_a7 hr, zCb_a8 hr, zCb_a9 hr, zCb_a10 hr, zCb_a11 hr]
    have e2 : zfall s a b g = (false, s) := if_neg e
    rw [e2]
    exact ⟨rfl, h, zF.rf⟩
  refine qV.go 30 [45] ok_70 ?_
  simp only [qW_nop, qW_iconst, qW_iconstm, qW_iloadn, qW_iload, qW_aloadn, qW_istore, qW_iadd, qW_dup, qW_ifeq, qW_iceq, qW_icne, qW_goto, qW_getf, qW_cv2_0, qW_cv4_0, qW_iret1, qW_putf0, Nat.reduceAdd, Nat.reduceMul, Nat.reduceBEq, Nat.reduceEqDiff, Nat.reduceLT, Nat.reduceLeDiff, Nat.zero_le, nI_add, nI_mul, nI_cl, qin_eq, qofI, qlg_0, qlg_s, qls_i0, qls_r0, qls_l0, qls_1, qls_2, qkl_i, qkl_r, qkl_l, qkl_n, qIsI_i, qIsL_l, qIsR_r, qint_i, qil_i, qil_r, qil_l, qf4_0, qf4_1, qf4_2, qf4_3, qf2_0, qf2_1, qcs_n, qcs_i, qcs_r, qcs_l, qst_n, qst_c, qJ_0, qJ_st, qJ_go, qfl_I, qfl_Z, qfl_L, qfl_R, qrI_i, qrL_l, qrV_v, qRcv_0, qRcv_s, eq_self, true_and, and_true, true_or, or_true, false_and, and_false, false_or, or_false, ite_true, if_true, if_false, Bool.true_or, Bool.false_or, Bool.or_false, beq_self_eq_true, Bool.false_eq_true, bX5_fallOut_0, bX5_fallOut_20, bX5_fallOut_21, bX5_fallOut_45, bX5_fallOut_47, kX5_fallOut_0, kX5_fallOut_20, kX5_fallOut_21, kX5_fallOut_45, kX5_fallOut_47, qK_80, qR_80_7, qK_81, zCb_k hr, zCb_6 hr, zCb_7 hr, zCb_8 hr, zCb_9 hr, zCb_10 hr, zCb_11 hr, zCb_12 hr, zCb_13 hr, zCb_14 hr, zCb_15 hr, zCb_16 hr, zCb_a1 hr, zCb_a2 hr, zCb_a3 hr, zCb_a4 hr, zCb_a5 hr, zCb_a6 hr, zCb_a7 hr, zCb_a8 hr, zCb_a9 hr, zCb_a10 hr, zCb_a11 hr]
  refine qBI.fn (x_hasBoy hr h.1.1 hw _) (by decide) ?_
  rw [zrg_k ha (by omega)]
  simp (disch := omega) only [nI_leI, nI_ltI, nI_eq, nI_cl, qin_eq, nI_add, nI_mul, qb_z, qb_t, qb_f, nI_ne0', Nat.reduceAdd, Bool.false_eq_true, if_false, if_true, true_and, and_true, Nat.reduceEqDiff, not_true_eq_false, not_false_eq_true, false_implies, true_implies, ite_true, ite_false]
  refine qBI.fn (x_hasBoy hr h.1.1 hw _) (by decide) ?_
  rw [zrg_k hb (by omega)]
  simp (disch := omega) only [nI_leI, nI_ltI, nI_eq, nI_cl, qin_eq, nI_add, nI_mul, qb_z, qb_t, qb_f, nI_ne0', Nat.reduceAdd, Bool.false_eq_true, if_false, if_true, true_and, and_true, Nat.reduceEqDiff, not_true_eq_false, not_false_eq_true, false_implies, true_implies, ite_true, ite_false]
  refine ⟨fun e => no (fun hh => hh.1 e), fun e => ?_⟩
  refine qBI.of (x_addQuarrel hr h.1 hw) (by decide) (fun v σ1 g1 => ?_)
  by_cases e10 : s.1 0 1 = 10
  · rw [if_pos e10] at g1
    obtain ⟨rfl, rfl⟩ := g1
    exact ⟨fun hh => absurd rfl hh, fun _ => no (by omega)⟩
  · rw [if_neg e10] at g1
    obtain ⟨rfl, X1, f1⟩ := g1
    refine ⟨fun _ => ?_, fun hh => absurd hh (nI_nem (by omega))⟩
    have h1 := h.c hr f1 X1
    have e2 : zfall s a b g = (true, zsR (zsC s (zboot s.1 a b g)) 3 (s.2.2 3 + 1)) := if_pos ⟨e, by omega⟩
    have k : σ1.1 80 4 = nI (s.2.2 3) := h1.2.1.2.2.2.2.1
    rw [e2, k, nI_add]
    exact ⟨rfl, h1.r hr (by unfold zrm; omega), (zPlf_c f1).tr (zPlf_r (by decide))⟩
set_option maxRecDepth 20000 in
theorem x_letPass {σ : qSg} {r : Nat} {s : zL} (hr : zCb r) (h : zXl σ r s) (hw : zW s.1) (h5 : s.1 0 5 ≤ 9999) {m : Nat} (hm : m ≤ 60) (b2 : s.2.2 2 ≤ 1000000) (b1 : s.2.2 1 ≤ 1000000) : qCI 5 68 [qr 80, qr r, qi (nI m)] σ (zXdo r σ (if s.1 0 5 + m ≤ 9999 then (true, zsR (zsR (zsC s (zit m s.1)) 2 (s.2.2 2 + (zmins m s.1).2)) 1 (s.2.2 1 + m)) else (false, s))) := by
  refine qCI.of [some (qr 80), some (qr r), some (qi (nI m))] ok_68 (Nat.le_of_ble_eq_true rfl) rfl ?_
  refine qV.go 30 [9999] ok_68 ?_
  simp only [qW_nop, qW_iconst, qW_sipush, qW_iloadn, qW_aloadn, qW_iadd, qW_dup, qW_icle, qW_getf, qW_cv2_0, qW_iret1, qW_putf0, Nat.reduceAdd, Nat.reduceMul, Nat.reduceBEq, Nat.reduceEqDiff, Nat.reduceLT, Nat.reduceLeDiff, Nat.zero_le, nI_add, nI_mul, nI_cl, qin_eq, qofI, qlg_0, qlg_s, qls_i0, qls_r0, qls_l0, qls_1, qls_2, qkl_i, qkl_r, qkl_l, qkl_n, qIsI_i, qIsL_l, qIsR_r, qint_i, qil_i, qil_r, qil_l, qf4_0, qf4_1, qf4_2, qf4_3, qf2_0, qf2_1, qcs_n, qcs_i, qcs_r, qcs_l, qst_n, qst_c, qJ_0, qJ_st, qJ_go, qfl_I, qfl_Z, qfl_L, qfl_R, qrI_i, qrL_l, qrV_v, qRcv_0, qRcv_s, eq_self, true_and, and_true, true_or, or_true, false_and, and_false, false_or, or_false, ite_true, if_true, if_false, Bool.true_or, Bool.false_or, Bool.or_false, beq_self_eq_true, Bool.false_eq_true, bX5_letPass_0, bX5_letPass_14, kX5_letPass_0, kX5_letPass_14, qK_80, qR_80_7, qK_81, zCb_k hr, zCb_6 hr, zCb_7 hr, zCb_8 hr, zCb_9 hr, zCb_10 hr, zCb_11 hr, zCb_12 hr, zCb_13 hr, zCb_14 hr, zCb_15 hr, zCb_16 hr, zCb_a1 hr, zCb_a2 hr, zCb_a3 hr, zCb_a4 hr, zCb_a5 hr, zCb_a6 hr, zCb_a7 hr, zCb_a8 hr, zCb_a9 hr, zCb_a10 hr, zCb_a11 hr]
  rw [h.1.1.m]
  simp (disch := omega) only [nI_leI, nI_ltI, nI_eq, nI_cl, qin_eq, nI_add, nI_mul, qb_z, qb_t, qb_f, nI_ne0', Nat.reduceAdd, Bool.false_eq_true, if_false, if_true, true_and, and_true, Nat.reduceEqDiff, not_true_eq_false, not_false_eq_true, false_implies, true_implies, ite_true, ite_false]
  refine And.symm ⟨fun g => ?_, fun g => ?_⟩
  · rw [if_neg (by omega)]
    exact ⟨rfl, h, zF.rf⟩
  · rw [if_pos (by omega)]
    refine qBI.of (x_pass hr h.1 hw (n := m) (by omega)) (by decide) (fun v σ1 g1 => ?_)
    obtain ⟨rfl, X1, f1⟩ := g1
    have h1 := h.c hr f1 X1
    have k3 : σ.1 80 3 = nI (s.2.2 2) := h.2.1.2.2.2.1
    have h2 := h1.r hr (i := 3) (j := 2) (v := s.2.2 2 + (zmins m s.1).2) (by unfold zrm; omega)
    have k2 : ∀ x, (qwi σ1 80 3 x).1 80 2 = nI (s.2.2 1) := fun x => by rw [qwi_1, if_neg (by decide)]; exact h1.2.1.2.2.1
    rw [k3, nI_add, k2, nI_add]
    exact ⟨rfl, h2.r hr (i := 2) (j := 1) (by unfold zrm; omega), ((zPlf_c f1).tr (zPlf_r (by decide))).tr (zPlf_r (by decide))⟩
theorem zdf_cnt (C : zC) : ∀ q, q ≤ C 0 1 → (zdf C q).2 = zcount (zOpen C) q := by
  have keep : ∀ q i, q ≤ i → (zdf C q).1 9 i = C 9 i := by
    intro q
    induction q with
    | zero => exact fun _ _ => rfl
    | succ q ih =>
      intro i hi
      have hle := zdf_le C q
      have e : zdf C (q + 1) = if zOpen (zdf C q).1 q = true then (zrow (zdf C q).1 (zdf C q).2 q, (zdf C q).2 + 1) else zdf C q := rfl
      rw [e]
      split
      · show zrow (zdf C q).1 (zdf C q).2 q 9 i = _
        unfold zrow
        rw [if_neg (by omega)]
        exact ih i (by omega)
      · exact ih i (by omega)
  intro q
  induction q with
  | zero => exact fun _ => rfl
  | succ q ih =>
    intro hq
    have e : zdf C (q + 1) = if zOpen (zdf C q).1 q = true then (zrow (zdf C q).1 (zdf C q).2 q, (zdf C q).2 + 1) else zdf C q := rfl
    have eo : zOpen (zdf C q).1 q = zOpen C q := by unfold zOpen; rw [keep q q (Nat.le_refl _)]
    rw [e, eo]
    simp only [zcount]
    split
    · show (zdf C q).2 + 1 = _
      rw [ih (by omega)]
    · rw [ih (by omega)]
      rfl
theorem zdawn_cnt (C : zC) (h : C 0 1 ≤ 32) : (zdawn C).2 = C 0 1 - zpop (zopens C) := by
  have e : (zdawn C).2 = C 0 1 - (zdf C (C 0 1)).2 := rfl
  unfold zopens
  rw [e, zdf_cnt C _ (Nat.le_refl _), zpop_bm h]
set_option maxRecDepth 20000 in
theorem x_newDay {σ : qSg} {r : Nat} {s : zL} (hr : zCb r) (h : zXl σ r s) (hw : zW s.1) : qCI 2 69 [qr r] σ (zXdo r σ (decide (0 < s.1 0 5 ∨ zpop (zopens s.1) < s.1 0 1), zsC s (zdawn s.1).1)) := by
  have wq := hw.2.1
  have wm := hw.2.2.2.2.2.2.2.1
  refine qCI.of [some (qr r), none] ok_69 (Nat.le_of_ble_eq_true rfl) rfl ?_
  refine qV.go 30 [9999] ok_69 ?_
  simp only [qW_nop, qW_iconst, qW_iloadn, qW_aloadn, qW_istoren, qW_ifgt, qW_ifle, qW_goto, qW_getf, qW_cv1_0, qW_iret1, Nat.reduceAdd, Nat.reduceMul, Nat.reduceBEq, Nat.reduceEqDiff, Nat.reduceLT, Nat.reduceLeDiff, Nat.zero_le, nI_add, nI_mul, nI_cl, qin_eq, qofI, qlg_0, qlg_s, qls_i0, qls_r0, qls_l0, qls_1, qls_2, qkl_i, qkl_r, qkl_l, qkl_n, qIsI_i, qIsL_l, qIsR_r, qint_i, qil_i, qil_r, qil_l, qf4_0, qf4_1, qf4_2, qf4_3, qf2_0, qf2_1, qcs_n, qcs_i, qcs_r, qcs_l, qst_n, qst_c, qJ_0, qJ_st, qJ_go, qfl_I, qfl_Z, qfl_L, qfl_R, qrI_i, qrL_l, qrV_v, qRcv_0, qRcv_s, eq_self, true_and, and_true, true_or, or_true, false_and, and_false, false_or, or_false, ite_true, if_true, if_false, Bool.true_or, Bool.false_or, Bool.or_false, beq_self_eq_true, Bool.false_eq_true, bX5_newDay_0, bX5_newDay_16, bX5_newDay_20, bX5_newDay_21, kX5_newDay_0, kX5_newDay_16, kX5_newDay_20, kX5_newDay_21, zCb_k hr, zCb_6 hr, zCb_7 hr, zCb_8 hr, zCb_9 hr, zCb_10 hr, zCb_11 hr, zCb_12 hr, zCb_13 hr, zCb_14 hr, zCb_15 hr, zCb_16 hr, zCb_a1 hr, zCb_a2 hr, zCb_a3 hr, zCb_a4 hr, zCb_a5 hr, zCb_a6 hr, zCb_a7 hr, zCb_a8 hr, zCb_a9 hr, zCb_a10 hr, zCb_a11 hr]
  rw [h.1.1.m]
  refine qBI.of (x_strike hr h.1 hw) (by decide) (fun v σ1 g1 => ?_)
  obtain ⟨rfl, X1, f1⟩ := g1
  have h1 := h.c hr f1 X1
  rw [zdawn_cnt _ (by omega), qgt0, qle0, nI_t (by omega), nI_t (by omega)]
  have yes : (0 < s.1 0 5 ∨ zpop (zopens s.1) < s.1 0 1) → zXdo r σ (decide (0 < s.1 0 5 ∨ zpop (zopens s.1) < s.1 0 1), zsC s (zdawn s.1).1) (nI 1) σ1 := fun hh => ⟨by rw [decide_eq_true hh]; rfl, h1, zPlf_c f1⟩
  have no : ¬ (0 < s.1 0 5 ∨ zpop (zopens s.1) < s.1 0 1) → zXdo r σ (decide (0 < s.1 0 5 ∨ zpop (zopens s.1) < s.1 0 1), zsC s (zdawn s.1).1) (nI 0) σ1 := fun hh => ⟨by rw [decide_eq_false hh]; rfl, h1, zPlf_c f1⟩
  exact ⟨fun g => yes (by omega), fun g => ⟨fun g2 => no (by omega), fun g2 => yes (by omega)⟩⟩
set_option maxRecDepth 20000 in
theorem x_moveTo {σ : qSg} {r : Nat} {s : zL} (hr : zCb r) (h : zXl σ r s) (hw : zW s.1) {b c : Nat} (hb : b < s.1 0 0) (hc : c < s.1 0 2 * s.1 0 3) : qCI 5 71 [qr r, qi (nI b), qi (nI c)] σ (zXdo r σ (decide (s.1 1 b ≠ c), zsC s (zu s.1 1 b c))) := by
  have wb := hw.1
  have gB := hw.2.2.2.2.2.2.2.2.1 b hb
  have hcl := zSW_cells hw
  refine qCI.of [some (qr r), some (qi (nI b)), some (qi (nI c))] ok_71 (Nat.le_of_ble_eq_true rfl) rfl ?_
  refine qV.go 30 [9999] ok_71 ?_
  simp only [qW_nop, qW_iconst, qW_iloadn, qW_aloadn, qW_ifeq, qW_icne, qW_getf, qW_iald, qW_cv2_0, qW_cv3_2, qW_iret1, Nat.reduceAdd, Nat.reduceMul, Nat.reduceBEq, Nat.reduceEqDiff, Nat.reduceLT, Nat.reduceLeDiff, Nat.zero_le, nI_add, nI_mul, nI_cl, qin_eq, qofI, qlg_0, qlg_s, qls_i0, qls_r0, qls_l0, qls_1, qls_2, qkl_i, qkl_r, qkl_l, qkl_n, qIsI_i, qIsL_l, qIsR_r, qint_i, qil_i, qil_r, qil_l, qf4_0, qf4_1, qf4_2, qf4_3, qf2_0, qf2_1, qcs_n, qcs_i, qcs_r, qcs_l, qst_n, qst_c, qJ_0, qJ_st, qJ_go, qfl_I, qfl_Z, qfl_L, qfl_R, qrI_i, qrL_l, qrV_v, qRcv_0, qRcv_s, eq_self, true_and, and_true, true_or, or_true, false_and, and_false, false_or, or_false, ite_true, if_true, if_false, Bool.true_or, Bool.false_or, Bool.or_false, beq_self_eq_true, Bool.false_eq_true, bX5_moveTo_0, bX5_moveTo_18, bX5_moveTo_20, kX5_moveTo_0, kX5_moveTo_18, kX5_moveTo_20, zCb_k hr, zCb_6 hr, zCb_7 hr, zCb_8 hr, zCb_9 hr, zCb_10 hr, zCb_11 hr, zCb_12 hr, zCb_13 hr, zCb_14 hr, zCb_15 hr, zCb_16 hr, zCb_a1 hr, zCb_a2 hr, zCb_a3 hr, zCb_a4 hr, zCb_a5 hr, zCb_a6 hr, zCb_a7 hr, zCb_a8 hr, zCb_a9 hr, zCb_a10 hr, zCb_a11 hr]
  refine qBI.fn (x_hasBoy hr h.1.1 hw _) (by decide) ?_
  rw [zrg_k hb (by omega)]
  simp (disch := omega) only [nI_leI, nI_ltI, nI_eq, nI_cl, qin_eq, nI_add, nI_mul, qb_z, qb_t, qb_f, nI_ne0', Nat.reduceAdd, Bool.false_eq_true, if_false, if_true, true_and, and_true, Nat.reduceEqDiff, not_true_eq_false, not_false_eq_true, false_implies, true_implies, ite_true, ite_false]
  rw [h.1.1.ce hb]
  simp (disch := omega) only [nI_leI, nI_ltI, nI_eq, nI_cl, qin_eq, nI_add, nI_mul, qb_z, qb_t, qb_f, nI_ne0', Nat.reduceAdd, Bool.false_eq_true, if_false, if_true, true_and, and_true, Nat.reduceEqDiff, not_true_eq_false, not_false_eq_true, false_implies, true_implies, ite_true, ite_false]
  refine ⟨fun e => ?_, fun e => ?_⟩
  · refine qBV.of (x_place hr h.1.1 hw hb hc) (by decide) (fun σ1 g1 => ?_)
    exact ⟨by rw [decide_eq_true e]; rfl, h.c hr g1.2 g1.1, zPlf_c g1.2⟩
  · subst e
    rw [zu_self]
    exact ⟨by rw [decide_eq_false (fun hh => hh rfl)]; rfl, h, zF.rf⟩
set_option maxRecDepth 20000 in
theorem x_drawQuarrel {σ : qSg} {r : Nat} {s : zL} (hr : zCb r) (h : zXl σ r s) (hw : zW s.1) (hd : s.2.2 6 < 65536) : qCI 3 72 [qr 80, qr r] σ (zXdo r σ (zany s)) := by
  have wb := hw.1
  refine qCI.of [some (qr 80), some (qr r), none, none, none] ok_72 (Nat.le_of_ble_eq_true rfl) rfl ?_
  refine qV.go 30 [9999] ok_72 ?_
  simp only [qW_nop, qW_iconst, qW_bipush, qW_iloadn, qW_iload, qW_aloadn, qW_istoren, qW_istore, qW_icge, qW_getf, qW_cv2_0, qW_cv5_0, qW_iret1, Nat.reduceAdd, Nat.reduceMul, Nat.reduceBEq, Nat.reduceEqDiff, Nat.reduceLT, Nat.reduceLeDiff, Nat.zero_le, nI_add, nI_mul, nI_cl, qin_eq, qofI, qlg_0, qlg_s, qls_i0, qls_r0, qls_l0, qls_1, qls_2, qkl_i, qkl_r, qkl_l, qkl_n, qIsI_i, qIsL_l, qIsR_r, qint_i, qil_i, qil_r, qil_l, qf4_0, qf4_1, qf4_2, qf4_3, qf2_0, qf2_1, qcs_n, qcs_i, qcs_r, qcs_l, qst_n, qst_c, qJ_0, qJ_st, qJ_go, qfl_I, qfl_Z, qfl_L, qfl_R, qrI_i, qrL_l, qrV_v, qRcv_0, qRcv_s, eq_self, true_and, and_true, true_or, or_true, false_and, and_false, false_or, or_false, ite_true, if_true, if_false, Bool.true_or, Bool.false_or, Bool.or_false, beq_self_eq_true, Bool.false_eq_true, bX5_drawQuarrel_0, bX5_drawQuarrel_10, kX5_drawQuarrel_0, kX5_drawQuarrel_10, qK_80, qR_80_7, qK_81, zCb_k hr, zCb_6 hr, zCb_7 hr, zCb_8 hr, zCb_9 hr, zCb_10 hr, zCb_11 hr, zCb_12 hr, zCb_13 hr, zCb_14 hr, zCb_15 hr, zCb_16 hr, zCb_a1 hr, zCb_a2 hr, zCb_a3 hr, zCb_a4 hr, zCb_a5 hr, zCb_a6 hr, zCb_a7 hr, zCb_a8 hr, zCb_a9 hr, zCb_a10 hr, zCb_a11 hr]
  rw [h.1.1.b]
  simp (disch := omega) only [nI_leI, nI_ltI, nI_eq, nI_cl, qin_eq, nI_add, nI_mul, qb_z, qb_t, qb_f, nI_ne0', Nat.reduceAdd, Bool.false_eq_true, if_false, if_true, true_and, and_true, Nat.reduceEqDiff, not_true_eq_false, not_false_eq_true, false_implies, true_implies, ite_true, ite_false]
  refine ⟨fun g => ?_, fun g => ?_⟩
  · refine qBI.of (x_drawBy (h.2.1.2.2.2.2.2.2) hd (m := s.1 0 0) (by omega) (by omega)) (by decide) (fun v σ1 g1 => ?_)
    obtain ⟨rfl, rfl⟩ := g1
    have b1 := h.r hr (i := 6) (j := 6) (v := zdr (s.2.2 6)) (by unfold zrm; omega)
    rw [b1.1.1.b, zsR_C]
    refine qBI.of (x_drawBy (b1.2.1.2.2.2.2.2.2) (by rw [zsR_e]; exact zdr_lt _) (m := s.1 0 0) (by omega) (by omega)) (by decide) (fun v σ1 g1 => ?_)
    obtain ⟨rfl, rfl⟩ := g1
    rw [zsR_e]
    have b2 := b1.r hr (i := 6) (j := 6) (v := zdr (zdr (s.2.2 6))) (by unfold zrm; omega)
    refine qBI.of (x_drawBy (b2.2.1.2.2.2.2.2.2) (by rw [zsR_e]; exact zdr_lt _) (m := 20) (by decide) (by decide)) (by decide) (fun v σ1 g1 => ?_)
    obtain ⟨rfl, rfl⟩ := g1
    rw [zsR_e]
    have b3 := b2.r hr (i := 6) (j := 6) (v := zdr (zdr (zdr (s.2.2 6)))) (by unfold zrm; omega)
    rw [zsR_2, zsR_2] at b3
    have e : zany s = zfall (zsR s 6 (zdr (zdr (zdr (s.2.2 6))))) (zdr (s.2.2 6) / 8 % s.1 0 0) (zdr (zdr (s.2.2 6)) / 8 % s.1 0 0) (zdr (zdr (zdr (s.2.2 6))) / 8 % 20) := if_neg (by omega)
    rw [e]
    have hm := fun x => Nat.mod_lt x (show 0 < s.1 0 0 by omega)
    refine qBI.of (x_fallOut hr b3 hw (a := zdr (s.2.2 6) / 8 % s.1 0 0) (b := zdr (zdr (s.2.2 6)) / 8 % s.1 0 0) (g := zdr (zdr (zdr (s.2.2 6))) / 8 % 20) (hm _) (hm _)) (by decide) (fun v σ1 g1 => ?_)
    obtain ⟨h6, h7, h8⟩ := g1
    exact ⟨by rw [h6]; exact qb_01 _, h6, h7, (((zPlf_r (by decide)).tr (zPlf_r (by decide))).tr (zPlf_r (by decide))).tr h8⟩
  · have e : zany s = (false, s) := if_pos (by omega)
    rw [e]
    exact ⟨rfl, h, zF.rf⟩
set_option maxRecDepth 20000 in
theorem x_holdsL {σ : qSg} {r : Nat} {C : zC} (hr : zCb r) (h : zX0 σ r C) (hw : zW C) {W : Nat → Nat → Nat} {n k : Nat} (h5 : C 0 5 ≤ 9999) (hW : zWk W n (C 0 0) (C 0 2 * C 0 3) k) (h15 : 1500 ≤ W k 0) : qFI 3 67 [qr r, qi (nI (zwa (W k))), qi (nI (zwb (W k))), qi (nI (zwc (W k)))] σ (qb (zholds W k C)) := by
  have wb := hw.1
  have wq := hw.2.1
  obtain ⟨ka, -, -, -, -, -, k19, k20, -⟩ := hW
  have hl := zopens_lt hw
  have hp : zpop (zopens C) ≤ 10 := zpop_le (k := 10) (by omega)
  have ea : zwa (W k) = W k 0 - 1503 := if_pos h15
  refine qCI.of [some (qr r), some (qi (nI (zwa (W k)))), some (qi (nI (zwb (W k)))), some (qi (nI (zwc (W k)))), none] ok_67 (Nat.le_of_ble_eq_true rfl) rfl ?_
  have fin : W k 0 ≠ 1519 → ∀ v, v = zhv W k C → v < 100000 → qV 67 3 (.inl fun r σ' => r = qb (zholds W k C) ∧ σ' = σ) 48 [some (qr r), some (qi (nI (zwa (W k)))), some (qi (nI (zwb (W k)))), some (qi (nI (zwc (W k)))), none] [qi (nI v)] σ := by
    intro h6 v hv hv2
    obtain ⟨j1, j2⟩ := k20 (by omega)
    have eb : zwb (W k) = W k 5 := by unfold zwb; rw [if_neg h6, if_pos (by omega)]
    have ec : zwc (W k) = W k 2 := if_pos (by omega)
    rw [eb, ec]
    refine qV.go 30 [9999] ok_67 ?_
    simp only [qW_nop, qW_iconst, qW_bipush, qW_iloadn, qW_iload, qW_aloadn, qW_istore, qW_ifeq, qW_icne, qW_icge, qW_icle, qW_goto, qW_getf, qW_cs1_0, qW_cv1_0, qW_cv2_0, qW_iret1, Nat.reduceAdd, Nat.reduceMul, Nat.reduceBEq, Nat.reduceEqDiff, Nat.reduceLT, Nat.reduceLeDiff, Nat.zero_le, nI_add, nI_mul, nI_cl, qin_eq, qofI, qlg_0, qlg_s, qls_i0, qls_r0, qls_l0, qls_1, qls_2, qkl_i, qkl_r, qkl_l, qkl_n, qIsI_i, qIsL_l, qIsR_r, qint_i, qil_i, qil_r, qil_l, qf4_0, qf4_1, qf4_2, qf4_3, qf2_0, qf2_1, qcs_n, qcs_i, qcs_r, qcs_l, qst_n, qst_c, qJ_0, qJ_st, qJ_go, qfl_I, qfl_Z, qfl_L, qfl_R, qrI_i, qrL_l, qrV_v, qRcv_0, qRcv_s, eq_self, true_and, and_true, true_or, or_true, false_and, and_false, false_or, or_false, ite_true, if_true, if_false, Bool.true_or, Bool.false_or, Bool.or_false, beq_self_eq_true, Bool.false_eq_true, bX5_holds_0, bX5_holds_26, bX5_holds_27, bX5_holds_28, bX5_holds_44, bX5_holds_48, bX5_holds_66, bX5_holds_67, bX5_holds_68, bX5_holds_84, bX5_holds_88, bX5_holds_98, bX5_holds_99, kX5_holds_0, kX5_holds_26, kX5_holds_27, kX5_holds_28, kX5_holds_44, kX5_holds_48, kX5_holds_66, kX5_holds_67, kX5_holds_68, kX5_holds_84, kX5_holds_88, kX5_holds_98, kX5_holds_99, zCb_k hr, zCb_6 hr, zCb_7 hr, zCb_8 hr, zCb_9 hr, zCb_10 hr, zCb_11 hr, zCb_12 hr, zCb_13 hr, zCb_14 hr, zCb_15 hr, zCb_16 hr, zCb_a1 hr, zCb_a2 hr, zCb_a3 hr, zCb_a4 hr, zCb_a5 hr, zCb_a6 hr, zCb_a7 hr, zCb_a8 hr, zCb_a9 hr, zCb_a10 hr, zCb_a11 hr]
    have e : zholds W k C = (if W k 5 = 60 then decide (v < W k 2) else if W k 5 = 62 then decide (W k 2 < v) else decide (v = W k 2)) := by
      rw [hv]
      exact if_neg h6
    rw [e]
    simp (disch := omega) only [nI_leI, nI_ltI, nI_eq, nI_cl, qin_eq, nI_add, nI_mul, qb_z, qb_t, qb_f, nI_ne0', Nat.reduceAdd, Bool.false_eq_true, if_false, if_true, true_and, and_true, Nat.reduceEqDiff, not_true_eq_false, not_false_eq_true, false_implies, true_implies, ite_true, ite_false]
    refine ⟨fun a => ⟨fun b => ⟨fun c => ?_, fun c => ?_⟩, fun b => ⟨fun c => ?_, fun c => ?_⟩⟩, fun a => ⟨fun c => ?_, fun c => ?_⟩⟩
    · rw [if_neg a, if_neg b, decide_eq_false c]; rfl
    · rw [if_neg a, if_neg b, decide_eq_true c]; rfl
    · rw [if_neg a, if_pos b, decide_eq_false (by omega)]; rfl
    · rw [if_neg a, if_pos b, decide_eq_true (by omega)]; rfl
    · rw [if_pos a, decide_eq_false (by omega)]; rfl
    · rw [if_pos a, decide_eq_true (by omega)]; rfl
  refine qV.go 30 [48] ok_67 ?_
  simp only [qW_nop, qW_iconst, qW_bipush, qW_iloadn, qW_iload, qW_aloadn, qW_istore, qW_ifeq, qW_icne, qW_icge, qW_icle, qW_goto, qW_getf, qW_cs1_0, qW_cv1_0, qW_cv2_0, qW_iret1, Nat.reduceAdd, Nat.reduceMul, Nat.reduceBEq, Nat.reduceEqDiff, Nat.reduceLT, Nat.reduceLeDiff, Nat.zero_le, nI_add, nI_mul, nI_cl, qin_eq, qofI, qlg_0, qlg_s, qls_i0, qls_r0, qls_l0, qls_1, qls_2, qkl_i, qkl_r, qkl_l, qkl_n, qIsI_i, qIsL_l, qIsR_r, qint_i, qil_i, qil_r, qil_l, qf4_0, qf4_1, qf4_2, qf4_3, qf2_0, qf2_1, qcs_n, qcs_i, qcs_r, qcs_l, qst_n, qst_c, qJ_0, qJ_st, qJ_go, qfl_I, qfl_Z, qfl_L, qfl_R, qrI_i, qrL_l, qrV_v, qRcv_0, qRcv_s, eq_self, true_and, and_true, true_or, or_true, false_and, and_false, false_or, or_false, ite_true, if_true, if_false, Bool.true_or, Bool.false_or, Bool.or_false, beq_self_eq_true, Bool.false_eq_true, bX5_holds_0, bX5_holds_26, bX5_holds_27, bX5_holds_28, bX5_holds_44, bX5_holds_48, bX5_holds_66, bX5_holds_67, bX5_holds_68, bX5_holds_84, bX5_holds_88, bX5_holds_98, bX5_holds_99, kX5_holds_0, kX5_holds_26, kX5_holds_27, kX5_holds_28, kX5_holds_44, kX5_holds_48, kX5_holds_66, kX5_holds_67, kX5_holds_68, kX5_holds_84, kX5_holds_88, kX5_holds_98, kX5_holds_99, zCb_k hr, zCb_6 hr, zCb_7 hr, zCb_8 hr, zCb_9 hr, zCb_10 hr, zCb_11 hr, zCb_12 hr, zCb_13 hr, zCb_14 hr, zCb_15 hr, zCb_16 hr, zCb_a1 hr, zCb_a2 hr, zCb_a3 hr, zCb_a4 hr, zCb_a5 hr, zCb_a6 hr, zCb_a7 hr, zCb_a8 hr, zCb_a9 hr, zCb_a10 hr, zCb_a11 hr]
  rw [ea]
  simp (disch := omega) only [nI_leI, nI_ltI, nI_eq, nI_cl, qin_eq, nI_add, nI_mul, qb_z, qb_t, qb_f, nI_ne0', Nat.reduceAdd, Bool.false_eq_true, if_false, if_true, true_and, and_true, Nat.reduceEqDiff, not_true_eq_false, not_false_eq_true, false_implies, true_implies, ite_true, ite_false]
  refine ⟨fun a => ⟨fun b => ?_, fun b => ?_⟩, fun a => ?_⟩
  · rw [h.m, ← ea]
    exact fin (by omega) _ (by rw [zhv, if_neg (by omega)]) (by omega)
  · refine qBI.fn (x_openSet hr h hw) (by decide) (qBI.fn (x_bits σ (by omega)) (by decide) ?_)
    rw [← ea]
    exact fin (by omega) _ (by rw [zhv, if_pos (by omega)]) (by omega)
  · have e1 : W k 0 = 1519 := by omega
    have eb : zwb (W k) = W k 1 := if_pos e1
    have hb := k19 e1
    have e : zholds W k C = zUp C (W k 1) := if_pos e1
    rw [eb, e]
    refine qBI.fn (x_hasBoy hr h hw _) (by decide) ?_
    rw [zrg_k hb (by omega)]
    simp (disch := omega) only [nI_leI, nI_ltI, nI_eq, nI_cl, qin_eq, nI_add, nI_mul, qb_z, qb_t, qb_f, nI_ne0', Nat.reduceAdd, Bool.false_eq_true, if_false, if_true, true_and, and_true, Nat.reduceEqDiff, not_true_eq_false, not_false_eq_true, false_implies, true_implies, ite_true, ite_false]
    refine qBI.fn (x_isUp hr h hw hb) (by decide) ?_
    cases zUp C (W k 1) <;> simp (disch := omega) only [nI_leI, nI_ltI, nI_eq, nI_cl, qin_eq, nI_add, nI_mul, qb_z, qb_t, qb_f, nI_ne0', Nat.reduceAdd, Bool.false_eq_true, if_false, if_true, true_and, and_true, Nat.reduceEqDiff, not_true_eq_false, not_false_eq_true, false_implies, true_implies, ite_true, ite_false]
