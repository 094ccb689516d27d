/-! the reference: a life -/
def zMW (σ : qSg) (W : Nat → Nat → Nat) (n : Nat) : Prop := σ.1 140 6 = nI n ∧ ∀ k, k < n → ∀ i, i < 6 → σ.1 140 (88 + 6 * k + i) = nI (W k i)
def zML (σ : qSg) (W : Nat → Nat → Nat) (n : Nat) (s : zL) : Prop :=
  zM σ 0 s.1 ∧ zMW σ W n ∧ (∀ j, j < 60 → σ.1 155 j = nI (s.2.1 j - 1)) ∧ (∀ j, j < 5 → σ.1 156 j = nI (s.2.2 j)) ∧ σ.1 139 38 = nI (s.2.2 5) ∧ σ.1 139 37 = nI (s.2.2 6)
/-- what a life may change -/
def zPl (a j : Nat) : Prop := (a = 140 ∧ j < 88 ∧ j ≠ 6) ∨ (a = 139 ∧ (j = 24 ∨ j = 37 ∨ j = 38)) ∨ a = 156 ∨ a = 155
set_option maxRecDepth 20000 in
theorem m_draw (σ : qSg) {d m : Nat} (hd : σ.1 139 37 = nI d) (h1 : d < 65536) (hm : 0 < m) (hm2 : m < 1000) : qCI 1 353 [qr 139, qi (nI m)] σ (fun r σ' => r = nI (zdr d / 8 % m) ∧ σ' = qwi σ 139 37 (nI (zdr d))) := by
  refine qCI.of [some (qr 139), some (qi (nI m))] ok_353 (Nat.le_of_ble_eq_true rfl) rfl ?_
  refine qV.go 30 [9999] ok_353 ?_
  simp only [qW_nop, qW_bipush, qW_sipush, qW_ldcw, qW_iloadn, qW_aloadn, qW_iadd, qW_imul, qW_idiv, qW_irem, qW_getf, qW_iret0, qW_putf0, Nat.reduceAdd, Nat.reduceMul, Nat.reduceBEq, Nat.reduceEqDiff, Nat.reduceLT, Nat.reduceLeDiff, Nat.zero_le, nI_add, nI_mul, nI_cl, qin_eq, qofI, qlg_0, qlg_s, qls_i0, qls_r0, qls_l0, qls_1, qls_2, qkl_i, qkl_r, qkl_l, qkl_n, qIsI_i, qIsL_l, qIsR_r, qint_i, qil_i, qil_r, qil_l, qf4_0, qf4_1, qf4_2, qf4_3, qf2_0, qf2_1, qcs_n, qcs_i, qcs_r, qcs_l, qst_n, qst_c, qJ_0, qJ_st, qJ_go, qfl_I, qfl_Z, qfl_L, qfl_R, qrI_i, qrL_l, qrV_v, qRcv_0, qRcv_s, eq_self, true_and, and_true, true_or, or_true, false_and, and_false, false_or, or_false, ite_true, if_true, if_false, Bool.true_or, Bool.false_or, Bool.or_false, beq_self_eq_true, Bool.false_eq_true, bX12_draw_0, kX12_draw_0, qK_139, qR_139_0, qK_140, qR_139_1, qK_141, qR_139_5, qK_142, qR_139_6, qK_143, qR_139_7, qK_144, qR_139_8, qK_145, qR_139_9, qK_146, qR_139_21, qK_147, qR_139_25, qK_148, qR_139_30, qK_149, qR_139_31, qK_150, qR_139_33, qK_151, qR_139_34, qK_152, qR_139_35, qK_153, qR_139_36, qK_154, qR_139_39, qK_155, qR_139_40, qK_156, qR_139_41, qK_157]
  rw [hd]
  simp only [nI_mul, nI_add]
  rw [nI_rem (by omega) (by decide) (by decide)]
  have := zdr_lt d
  rw [show (d * 3187 + 11411) % 65536 = zdr d from rfl, qwi_1, if_pos ⟨rfl, rfl⟩, nI_div (by omega) (by decide) (by decide), nI_rem (by omega) (by omega) (by omega)]
  exact ⟨by decide, by decide, by rw [nI_ne0' (by omega)]; omega, rfl, rfl⟩
theorem zML.f {σ σ' : qSg} {W : Nat → Nat → Nat} {n : Nat} {s : zL} {C : zC} (h : zML σ W n s) (hn : n ≤ 60) (hM : zM σ' 0 C) (f : zF zPm σ σ') : zML σ' W n (zsC s C) := by
  obtain ⟨h1, ⟨h2, h3⟩, h4, h5, h6, h7⟩ := h
  refine ⟨hM, ⟨?_, fun k hk i hi => ?_⟩, fun j hj => ?_, fun j hj => ?_, ?_, ?_⟩
  · rw [f.1 _ _ (by unfold zPm; omega)]; exact h2
  · rw [f.1 _ _ (by unfold zPm; omega)]; exact h3 k hk i hi
  · rw [f.1 _ _ (by unfold zPm; omega)]; exact h4 j hj
  · rw [f.1 _ _ (by unfold zPm; omega)]; exact h5 j hj
  · rw [f.1 _ _ (by unfold zPm; omega)]; exact h6
  · rw [f.1 _ _ (by unfold zPm; omega)]; exact h7
theorem zML.r {σ : qSg} {W : Nat → Nat → Nat} {n : Nat} {s : zL} {i v : Nat} (h : zML σ W n s) (hw : zW s.1) (hi : i < 5) : zML (qwi σ 156 i (nI v)) W n (zsR s i v) := by
  obtain ⟨h1, ⟨h2, h3⟩, h4, h5, h6, h7⟩ := h
  refine ⟨zM_wi h1 (by omega) hw, ⟨?_, fun k hk j hj => ?_⟩, fun j hj => ?_, fun j hj => ?_, ?_, ?_⟩
  · rw [qwi_1, if_neg (by omega)]; exact h2
  · rw [qwi_1, if_neg (by omega)]; exact h3 k hk j hj
  · rw [qwi_1, if_neg (by omega)]; exact h4 j hj
  · rw [qwi_1]
    by_cases e : j = i
    · subst e
      rw [if_pos ⟨rfl, rfl⟩, zsR_e]
    · rw [if_neg (by omega), zsR_n e]; exact h5 j hj
  · rw [qwi_1, if_neg (by omega), zsR_n (by omega)]; exact h6
  · rw [qwi_1, if_neg (by omega), zsR_n (by omega)]; exact h7
theorem zPl_m {σ σ' : qSg} (f : zF zPm σ σ') : zF zPl σ σ' := f.wk fun a j h => by unfold zPm at h; unfold zPl; omega
theorem zPc_m {σ σ' : qSg} (f : zF zPc σ σ') : zF zPm σ σ' := f.wk fun a j h => by unfold zPc at h; unfold zPm; omega
theorem zPl_r {σ : qSg} {i : Nat} {x : Int32} : zF zPl σ (qwi σ 156 i x) := zF.wi (Or.inr (Or.inr (Or.inl rfl)))
/-- a deed in a life: what it answers, what stands behind it -/
def zDo (W : Nat → Nat → Nat) (n : Nat) (σ : qSg) (r : Bool × zL) (x : Int32) (σ' : qSg) : Prop := x = qb r.1 ∧ zML σ' W n r.2 ∧ zF zPl σ σ'
set_option maxRecDepth 20000 in
theorem m_minutesBy {σ : qSg} {W : Nat → Nat → Nat} {n : Nat} {s : zL} (h : zML σ W n s) (hs : zLW W n s) {m : Nat} (hm : m ≤ 60) :
    qCI 8 354 [qr 139, qi (nI m)] σ (zDo W n σ (if s.1 0 5 + m ≤ 9999 then (true, zsR (zsR (zsC s (zit m s.1)) 2 (s.2.2 2 + (zmins m s.1).2)) 1 (s.2.2 1 + m)) else (false, s))) := by
  have hw := hs.1
  have h5 := hs.2.2.1
  refine qCI.of [some (qr 139), some (qi (nI m))] ok_354 (Nat.le_of_ble_eq_true rfl) rfl ?_
  refine qV.go 30 [9999] ok_354 ?_
  simp only [qW_nop, qW_iconst, qW_sipush, qW_iloadn, qW_aloadn, qW_iadd, qW_dup2, qW_icle, qW_getf, qW_iald, qW_iast, qW_cv2_0, qW_iret1, Nat.reduceAdd, Nat.reduceMul, Nat.reduceBEq, Nat.reduceEqDiff, Nat.reduceLT, Nat.reduceLeDiff, Nat.zero_le, nI_add, nI_mul, nI_cl, qin_eq, qofI, qlg_0, qlg_s, qls_i0, qls_r0, qls_l0, qls_1, qls_2, qkl_i, qkl_r, qkl_l, qkl_n, qIsI_i, qIsL_l, qIsR_r, qint_i, qil_i, qil_r, qil_l, qf4_0, qf4_1, qf4_2, qf4_3, qf2_0, qf2_1, qcs_n, qcs_i, qcs_r, qcs_l, qst_n, qst_c, qJ_0, qJ_st, qJ_go, qfl_I, qfl_Z, qfl_L, qfl_R, qrI_i, qrL_l, qrV_v, qRcv_0, qRcv_s, eq_self, true_and, and_true, true_or, or_true, false_and, and_false, false_or, or_false, ite_true, if_true, if_false, Bool.true_or, Bool.false_or, Bool.or_false, beq_self_eq_true, Bool.false_eq_true, bX12_minutesBy_0, bX12_minutesBy_16, kX12_minutesBy_0, kX12_minutesBy_16, qK_139, qR_139_0, qK_140, qR_139_1, qK_141, qR_139_5, qK_142, qR_139_6, qK_143, qR_139_7, qK_144, qR_139_8, qK_145, qR_139_9, qK_146, qR_139_21, qK_147, qR_139_25, qK_148, qR_139_30, qK_149, qR_139_31, qK_150, qR_139_33, qK_151, qR_139_34, qK_152, qR_139_35, qK_153, qR_139_36, qK_154, qR_139_39, qK_155, qR_139_40, qK_156, qR_139_41, qK_157]
  rw [zM_s h.1 5 (by decide)]
  simp (disch := omega) only [nI_leI, nI_ltI, nI_eq, nI_cl, qin_eq, nI_add, nI_mul, qb_z, qb_t, qb_f, nI_ne0', Nat.reduceAdd, Bool.false_eq_true, if_false, if_true, true_and, and_true, Nat.reduceEqDiff, not_true_eq_false, not_false_eq_true, false_implies, true_implies, ite_true, ite_false]
  refine ⟨fun h1 => ?_, fun h1 => ?_⟩
  · refine qBI.of (m_minutesGo h.1 hw m (by omega)) (by decide) (fun r σ2 h2 => ?_)
    obtain ⟨rfl, a2, f2⟩ := h2
    have b := h.f hs.2.1.1 a2 f2
    rw [if_pos h1, h.2.2.2.1 2 (by decide), nI_add]
    have b2 := b.r (i := 2) (v := s.2.2 2 + (zmins m s.1).2) (zit_W hw m (by omega)) (by decide)
    have e1 := b2.2.2.2.1 1 (by decide)
    rw [zsR_n (by decide)] at e1
    have e1' : (qwi σ2 156 2 (nI (s.2.2 2 + (zmins m s.1).2))).1 156 1 = nI (s.2.2 1) := e1
    rw [e1', nI_add]
    exact ⟨rfl, b2.r (zit_W hw m (by omega)) (by decide), ((zPl_m f2).tr zPl_r).tr zPl_r⟩
  · rw [if_neg h1]
    exact ⟨rfl, h, zF.rf⟩
set_option maxRecDepth 20000 in
theorem m_dawnsBy {σ : qSg} {W : Nat → Nat → Nat} {n : Nat} {s : zL} (h : zML σ W n s) (hs : zLW W n s) :
    qCI 5 355 [qr 139] σ (zDo W n σ (decide (0 < s.1 0 5 ∨ zpop (zopens s.1) < s.1 0 1), zsC s (zdawn s.1).1)) := by
  have hw := hs.1
  have h5 := hs.2.2.1
  refine qCI.of [some (qr 139), none] ok_355 (Nat.le_of_ble_eq_true rfl) rfl ?_
  refine qV.go 30 [9999] ok_355 ?_
  simp only [qW_nop, qW_iconst, qW_iloadn, qW_aloadn, qW_istoren, qW_pop, qW_icge, qW_ifgt, qW_goto, qW_getf, qW_iald, qW_cs1_0, qW_cv1_0, qW_iret1, Nat.reduceAdd, Nat.reduceMul, Nat.reduceBEq, Nat.reduceEqDiff, Nat.reduceLT, Nat.reduceLeDiff, Nat.zero_le, nI_add, nI_mul, nI_cl, qin_eq, qofI, qlg_0, qlg_s, qls_i0, qls_r0, qls_l0, qls_1, qls_2, qkl_i, qkl_r, qkl_l, qkl_n, qIsI_i, qIsL_l, qIsR_r, qint_i, qil_i, qil_r, qil_l, qf4_0, qf4_1, qf4_2, qf4_3, qf2_0, qf2_1, qcs_n, qcs_i, qcs_r, qcs_l, qst_n, qst_c, qJ_0, qJ_st, qJ_go, qfl_I, qfl_Z, qfl_L, qfl_R, qrI_i, qrL_l, qrV_v, qRcv_0, qRcv_s, eq_self, true_and, and_true, true_or, or_true, false_and, and_false, false_or, or_false, ite_true, if_true, if_false, Bool.true_or, Bool.false_or, Bool.or_false, beq_self_eq_true, Bool.false_eq_true, bX12_dawnsBy_0, bX12_dawnsBy_25, bX12_dawnsBy_29, bX12_dawnsBy_30, kX12_dawnsBy_0, kX12_dawnsBy_25, kX12_dawnsBy_29, kX12_dawnsBy_30, qK_139, qR_139_0, qK_140, qR_139_1, qK_141, qR_139_5, qK_142, qR_139_6, qK_143, qR_139_7, qK_144, qR_139_8, qK_145, qR_139_9, qK_146, qR_139_21, qK_147, qR_139_25, qK_148, qR_139_30, qK_149, qR_139_31, qK_150, qR_139_33, qK_151, qR_139_34, qK_152, qR_139_35, qK_153, qR_139_36, qK_154, qR_139_39, qK_155, qR_139_40, qK_156, qR_139_41, qK_157]
  rw [zM_s h.1 5 (by decide)]
  have fin : ∀ e : Bool, e = decide (0 < s.1 0 5 ∨ zpop (zopens s.1) < s.1 0 1) → qBI 5 283 [qr 139] σ fun r σ1 => zDo W n σ (decide (0 < s.1 0 5 ∨ zpop (zopens s.1) < s.1 0 1), zsC s (zdawn s.1).1) (qb e) σ1 := by
    intro e he
    refine qBI.of (m_dawns h.1 hw) (by decide) (fun r σ2 h2 => ?_)
    obtain ⟨rfl, a2, f2⟩ := h2
    exact ⟨by rw [he], h.f hs.2.1.1 a2 (zPc_m f2), zPl_m (zPc_m f2)⟩
  rw [qgt0, nI_t (by omega)]
  refine ⟨fun h1 => fin true (by simp; omega), fun h1 => ?_⟩
  have hl := zopens_lt hw
  have hp : zpop (zopens s.1) ≤ 10 := zpop_le (k := 10) (by omega)
  have hq := hw.2.1
  refine qBI.fn (m_openOnes h.1 hw) (by decide) (qBI.fn (m_bits σ (by omega)) (by decide) ?_)
  rw [zM_s h.1 1 (by decide)]
  simp (disch := omega) only [nI_leI, nI_ltI, nI_eq, nI_cl, qin_eq, nI_add, nI_mul, qb_z, qb_t, qb_f, nI_ne0', Nat.reduceAdd, Bool.false_eq_true, if_false, if_true, true_and, and_true, Nat.reduceEqDiff, not_true_eq_false, not_false_eq_true, false_implies, true_implies, ite_true, ite_false]
  refine ⟨fun h2 => fin false (by simp; omega), fun h2 => fin true (by simp; omega)⟩
set_option maxRecDepth 20000 in
theorem m_bootsBy {σ : qSg} {W : Nat → Nat → Nat} {n : Nat} {s : zL} (h : zML σ W n s) (hw : zW s.1) (hn : n ≤ 60) {a b g : Nat} (hg : g ≤ 99) (ha : a < s.1 0 0) (hb : b < s.1 0 0) :
    qCI 3 356 [qr 139, qi (nI a), qi (nI b), qi (nI g)] σ (zDo W n σ (zfall s a b g)) := by
  have hb8 := hw.1
  refine qCI.of [some (qr 139), some (qi (nI a)), some (qi (nI b)), some (qi (nI g))] ok_356 (Nat.le_of_ble_eq_true rfl) rfl ?_
  refine qV.go 30 [9999] ok_356 ?_
  simp only [qW_nop, qW_iconst, qW_iloadn, qW_aloadn, qW_iadd, qW_dup2, qW_ifne, qW_getf, qW_iald, qW_iast, qW_cv4_0, qW_iret1, Nat.reduceAdd, Nat.reduceMul, Nat.reduceBEq, Nat.reduceEqDiff, Nat.reduceLT, Nat.reduceLeDiff, Nat.zero_le, nI_add, nI_mul, nI_cl, qin_eq, qofI, qlg_0, qlg_s, qls_i0, qls_r0, qls_l0, qls_1, qls_2, qkl_i, qkl_r, qkl_l, qkl_n, qIsI_i, qIsL_l, qIsR_r, qint_i, qil_i, qil_r, qil_l, qf4_0, qf4_1, qf4_2, qf4_3, qf2_0, qf2_1, qcs_n, qcs_i, qcs_r, qcs_l, qst_n, qst_c, qJ_0, qJ_st, qJ_go, qfl_I, qfl_Z, qfl_L, qfl_R, qrI_i, qrL_l, qrV_v, qRcv_0, qRcv_s, eq_self, true_and, and_true, true_or, or_true, false_and, and_false, false_or, or_false, ite_true, if_true, if_false, Bool.true_or, Bool.false_or, Bool.or_false, beq_self_eq_true, Bool.false_eq_true, bX12_bootsBy_0, bX12_bootsBy_12, kX12_bootsBy_0, kX12_bootsBy_12, qK_139, qR_139_0, qK_140, qR_139_1, qK_141, qR_139_5, qK_142, qR_139_6, qK_143, qR_139_7, qK_144, qR_139_8, qK_145, qR_139_9, qK_146, qR_139_21, qK_147, qR_139_25, qK_148, qR_139_30, qK_149, qR_139_31, qK_150, qR_139_33, qK_151, qR_139_34, qK_152, qR_139_35, qK_153, qR_139_36, qK_154, qR_139_39, qK_155, qR_139_40, qK_156, qR_139_41, qK_157]
  refine qBI.of (m_boots h.1 hw (by omega) (by omega) (by omega)) (by decide) (fun r σ2 h2 => ?_)
  obtain ⟨rfl, a2, a3, f2⟩ := h2
  by_cases e : a ≠ b ∧ s.1 0 1 < 10
  · have b2 := h.f hn (a2 e.1 e.2) (zPc_m f2)
    have e2 : zfall s a b g = (true, zsR (zsC s (zboot s.1 a b g)) 3 (s.2.2 3 + 1)) := if_pos e
    have e1 := b2.2.2.2.1 3 (by decide)
    have e1' : σ2.1 156 3 = nI (s.2.2 3) := e1
    rw [e1', nI_add, e2]
    refine ⟨fun _ => ⟨rfl, b2.r ?_ (by decide), (zPl_m (zPc_m f2)).tr zPl_r⟩, fun h1 => ?_⟩
    · exact zboot_W hw e.2 ha hb e.1 (by omega)
    · rw [decide_eq_true e] at h1
      exact absurd h1 (by decide)
  · rw [a3 e]
    have e2 : zfall s a b g = (false, s) := if_neg e
    rw [e2, decide_eq_false e]
    exact ⟨fun h1 => absurd nI_0 h1, fun _ => ⟨rfl, h, zF.rf⟩⟩
theorem zML.d {σ : qSg} {W : Nat → Nat → Nat} {n : Nat} {s : zL} {v : Nat} (h : zML σ W n s) (hw : zW s.1) : zML (qwi σ 139 37 (nI v)) W n (zsR s 6 v) := by
  obtain ⟨h1, ⟨h2, h3⟩, h4, h5, h6, h7⟩ := h
  refine ⟨zM_wi h1 (by omega) hw, ⟨?_, fun k hk j hj => ?_⟩, fun j hj => ?_, fun j hj => ?_, ?_, ?_⟩
  · rw [qwi_1, if_neg (by omega)]; exact h2
  · rw [qwi_1, if_neg (by omega)]; exact h3 k hk j hj
  · rw [qwi_1, if_neg (by omega)]; exact h4 j hj
  · rw [qwi_1, if_neg (by omega), zsR_n (by omega)]; exact h5 j hj
  · rw [qwi_1, if_neg (by omega), zsR_n (by omega)]; exact h6
  · rw [qwi_1, if_pos ⟨rfl, rfl⟩, zsR_e]
theorem zsR_2 (s : zL) (i u v : Nat) : zsR (zsR s i u) i v = zsR s i v := by
  refine Prod.ext rfl (Prod.ext rfl ?_)
  funext j
  by_cases e : j = i
  · subst e
    rw [zsR_e, zsR_e]
  · rw [zsR_n e, zsR_n e, zsR_n e]
theorem zPl_d {σ : qSg} {x : Int32} : zF zPl σ (qwi σ 139 37 x) := zF.wi (Or.inr (Or.inl ⟨rfl, Or.inr (Or.inl rfl)⟩))
set_option maxRecDepth 20000 in
theorem m_bootsAny {σ : qSg} {W : Nat → Nat → Nat} {n : Nat} {s : zL} (h : zML σ W n s) (hs : zLW W n s) :
    qCI 4 357 [qr 139] σ (zDo W n σ (zany s)) := by
  have hw := hs.1
  have hb8 := hw.1
  have hd := hs.2.2.2.1
  refine qCI.of [some (qr 139), none, none] ok_357 (Nat.le_of_ble_eq_true rfl) rfl ?_
  refine qV.go 30 [9999] ok_357 ?_
  simp only [qW_nop, qW_iconst, qW_bipush, qW_iloadn, qW_aloadn, qW_istoren, qW_ifne, qW_getf, qW_iald, qW_cv2_0, qW_cv4_0, qW_iret1, Nat.reduceAdd, Nat.reduceMul, Nat.reduceBEq, Nat.reduceEqDiff, Nat.reduceLT, Nat.reduceLeDiff, Nat.zero_le, nI_add, nI_mul, nI_cl, qin_eq, qofI, qlg_0, qlg_s, qls_i0, qls_r0, qls_l0, qls_1, qls_2, qkl_i, qkl_r, qkl_l, qkl_n, qIsI_i, qIsL_l, qIsR_r, qint_i, qil_i, qil_r, qil_l, qf4_0, qf4_1, qf4_2, qf4_3, qf2_0, qf2_1, qcs_n, qcs_i, qcs_r, qcs_l, qst_n, qst_c, qJ_0, qJ_st, qJ_go, qfl_I, qfl_Z, qfl_L, qfl_R, qrI_i, qrL_l, qrV_v, qRcv_0, qRcv_s, eq_self, true_and, and_true, true_or, or_true, false_and, and_false, false_or, or_false, ite_true, if_true, if_false, Bool.true_or, Bool.false_or, Bool.or_false, beq_self_eq_true, Bool.false_eq_true, bX12_bootsAny_0, bX12_bootsAny_11, kX12_bootsAny_0, kX12_bootsAny_11, qK_139, qR_139_0, qK_140, qR_139_1, qK_141, qR_139_5, qK_142, qR_139_6, qK_143, qR_139_7, qK_144, qR_139_8, qK_145, qR_139_9, qK_146, qR_139_21, qK_147, qR_139_25, qK_148, qR_139_30, qK_149, qR_139_31, qK_150, qR_139_33, qK_151, qR_139_34, qK_152, qR_139_35, qK_153, qR_139_36, qK_154, qR_139_39, qK_155, qR_139_40, qK_156, qR_139_41, qK_157]
  rw [zM_s h.1 0 (by decide)]
  simp (disch := omega) only [nI_leI, nI_ltI, nI_eq, nI_cl, qin_eq, nI_add, nI_mul, qb_z, qb_t, qb_f, nI_ne0', Nat.reduceAdd, Bool.false_eq_true, if_false, if_true, true_and, and_true, Nat.reduceEqDiff, not_true_eq_false, not_false_eq_true, false_implies, true_implies, ite_true, ite_false]
  refine ⟨fun h1 => ?_, fun h1 => ?_⟩
  · refine qBI.of (m_draw σ h.2.2.2.2.2 hd (by omega) (by omega)) (by decide) (fun r σ2 h2 => ?_)
    obtain ⟨rfl, rfl⟩ := h2
    have b1 := h.d (v := zdr (s.2.2 6)) hw
    rw [zM_s b1.1 0 (by decide), zsR_C]
    refine qBI.of (m_draw _ b1.2.2.2.2.2 (by rw [zsR_e]; exact zdr_lt _) (m := s.1 0 0) (by omega) (by omega)) (by decide) (fun r σ3 h3 => ?_)
    obtain ⟨rfl, rfl⟩ := h3
    rw [zsR_e]
    have b2 := b1.d (v := zdr (zdr (s.2.2 6))) hw
    refine qBI.of (m_draw _ b2.2.2.2.2.2 (by rw [zsR_e]; exact zdr_lt _) (show 0 < 20 by decide) (by decide)) (by decide) (fun r σ4 h4 => ?_)
    obtain ⟨rfl, rfl⟩ := h4
    rw [zsR_e]
    have b3 := b2.d (v := zdr (zdr (zdr (s.2.2 6)))) hw
    rw [zsR_2, zsR_2] at b3
    have e : zany s = zfall (zsR s 6 (zdr (zdr (zdr (s.2.2 6))))) (zdr (s.2.2 6) / 8 % s.1 0 0) (zdr (zdr (s.2.2 6)) / 8 % s.1 0 0) (zdr (zdr (zdr (s.2.2 6))) / 8 % 20) := if_neg h1
    rw [e]
    have hm := fun x => Nat.mod_lt x (show 0 < s.1 0 0 by omega)
    have hg := Nat.mod_lt (zdr (zdr (zdr (s.2.2 6))) / 8) (show 0 < 20 by decide)
    refine qBI.of (m_bootsBy b3 hw hs.2.1.1 (a := zdr (s.2.2 6) / 8 % s.1 0 0) (b := zdr (zdr (s.2.2 6)) / 8 % s.1 0 0) (g := zdr (zdr (zdr (s.2.2 6))) / 8 % 20) (by omega) (hm _) (hm _)) (by decide) (fun r σ5 h5 => ?_)
    obtain ⟨h6, h7, h8⟩ := h5
    exact ⟨by rw [h6]; exact qb_01 _, h6, h7, ((zPl_d.tr zPl_d).tr zPl_d).tr h8⟩
  · have e : zany s = (false, s) := if_pos h1
    rw [e]
    exact ⟨rfl, h, zF.rf⟩
set_option maxRecDepth 20000 in
theorem m_does {σ : qSg} {W : Nat → Nat → Nat} {n : Nat} {s : zL} (h : zML σ W n s) (hs : zLW W n s) {k : Nat} (hk : k < n) :
    qCI 9 358 [qr 139, qi (nI (88 + 6 * k))] σ (zDo W n σ (zdo W k s)) := by
  have hw := hs.1
  have hn := hs.2.1.1
  have hW := h.2.1.2 k hk
  obtain ⟨ka, k10, k3, k12, k13, -⟩ := hs.2.1.2.1 k hk
  have hc : s.1 0 2 * s.1 0 3 ≤ 6 * 6 := Nat.mul_le_mul hw.2.2.2.1 hw.2.2.2.2.2.1
  have hb := hw.1
  refine qCI.of [some (qr 139), some (qi (nI (88 + 6 * k))), none, none] ok_358 (Nat.le_of_ble_eq_true rfl) rfl ?_
  have h0 : σ.1 140 (88 + 6 * k) = nI (W k 0) := hW 0 (by decide)
  have h1 : σ.1 140 (88 + 6 * k + 1) = nI (W k 1) := hW 1 (by decide)
  have h2 : σ.1 140 (88 + 6 * k + 2) = nI (W k 2) := hW 2 (by decide)
  have h3 : σ.1 140 (88 + 6 * k + 3) = nI (W k 3) := hW 3 (by decide)
  refine qV.go 30 [88, 94, 99, 114, 128, 135, 140] ok_358 ?_
  simp only [qW_nop, qW_iconst, qW_iloadn, qW_aloadn, qW_istoren, qW_iadd, qW_ifle, qW_goto, qW_tsw, qW_getf, qW_iald, qW_cv1_0, qW_cv2_0, qW_cv3_0, qW_cv4_0, qW_iret1, Nat.reduceAdd, Nat.reduceMul, Nat.reduceBEq, Nat.reduceEqDiff, Nat.reduceLT, Nat.reduceLeDiff, Nat.zero_le, nI_add, nI_mul, nI_cl, qin_eq, qofI, qlg_0, qlg_s, qls_i0, qls_r0, qls_l0, qls_1, qls_2, qkl_i, qkl_r, qkl_l, qkl_n, qIsI_i, qIsL_l, qIsR_r, qint_i, qil_i, qil_r, qil_l, qf4_0, qf4_1, qf4_2, qf4_3, qf2_0, qf2_1, qcs_n, qcs_i, qcs_r, qcs_l, qst_n, qst_c, qJ_0, qJ_st, qJ_go, qfl_I, qfl_Z, qfl_L, qfl_R, qrI_i, qrL_l, qrV_v, qRcv_0, qRcv_s, eq_self, true_and, and_true, true_or, or_true, false_and, and_false, false_or, or_false, ite_true, if_true, if_false, Bool.true_or, Bool.false_or, Bool.or_false, beq_self_eq_true, Bool.false_eq_true, bX12_does_0, bX12_does_88, bX12_does_94, bX12_does_99, bX12_does_114, bX12_does_126, bX12_does_127, bX12_does_128, bX12_does_135, bX12_does_140, kX12_does_0, kX12_does_88, kX12_does_94, kX12_does_99, kX12_does_114, kX12_does_126, kX12_does_127, kX12_does_128, kX12_does_135, kX12_does_140, qK_139, qR_139_0, qK_140, qR_139_1, qK_141, qR_139_5, qK_142, qR_139_6, qK_143, qR_139_7, qK_144, qR_139_8, qK_145, qR_139_9, qK_146, qR_139_21, qK_147, qR_139_25, qK_148, qR_139_30, qK_149, qR_139_31, qK_150, qR_139_33, qK_151, qR_139_34, qK_152, qR_139_35, qK_153, qR_139_36, qK_154, qR_139_39, qK_155, qR_139_40, qK_156, qR_139_41, qK_157]
  simp (disch := omega) only [nI_leI, nI_ltI, nI_eq, nI_cl, qin_eq, nI_add, nI_mul, qb_z, qb_t, qb_f, nI_ne0', Nat.reduceAdd, Bool.false_eq_true, if_false, if_true, true_and, and_true, Nat.reduceEqDiff, not_true_eq_false, not_false_eq_true, false_implies, true_implies, ite_true, ite_false]
  simp only [h0, h1, h2]
  have stay : (W k 0 < 10 → W k 0 ≠ 3 → False) ∧ (14 < W k 0 → zdo W k s = (true, s)) := by
    refine ⟨fun _ _ => by omega, fun _ => ?_⟩
    unfold zdo
    rw [if_neg (by omega), if_neg (by omega), if_neg (by omega), if_neg (by omega), if_neg (by omega), if_neg (by omega)]
  rw [qsw]
  simp only [qsl, nI_t (show W k 0 < 2147483648 by omega)]
  have rest : 14 < W k 0 → qV 358 9 (.inl (zDo W n σ (zdo W k s))) 140 [some (qr 139), some (qi (nI (88 + 6 * k))), some (qi (nI (W k 1))), some (qi (nI (W k 2)))] [] σ := by
    intro h4
    refine qV.go 30 [9999] ok_358 ?_
    simp only [qW_nop, qW_iconst, qW_iloadn, qW_aloadn, qW_istoren, qW_iadd, qW_ifle, qW_goto, qW_tsw, qW_getf, qW_iald, qW_cv1_0, qW_cv2_0, qW_cv3_0, qW_cv4_0, qW_iret1, Nat.reduceAdd, Nat.reduceMul, Nat.reduceBEq, Nat.reduceEqDiff, Nat.reduceLT, Nat.reduceLeDiff, Nat.zero_le, nI_add, nI_mul, nI_cl, qin_eq, qofI, qlg_0, qlg_s, qls_i0, qls_r0, qls_l0, qls_1, qls_2, qkl_i, qkl_r, qkl_l, qkl_n, qIsI_i, qIsL_l, qIsR_r, qint_i, qil_i, qil_r, qil_l, qf4_0, qf4_1, qf4_2, qf4_3, qf2_0, qf2_1, qcs_n, qcs_i, qcs_r, qcs_l, qst_n, qst_c, qJ_0, qJ_st, qJ_go, qfl_I, qfl_Z, qfl_L, qfl_R, qrI_i, qrL_l, qrV_v, qRcv_0, qRcv_s, eq_self, true_and, and_true, true_or, or_true, false_and, and_false, false_or, or_false, ite_true, if_true, if_false, Bool.true_or, Bool.false_or, Bool.or_false, beq_self_eq_true, Bool.false_eq_true, bX12_does_0, bX12_does_88, bX12_does_94, bX12_does_99, bX12_does_114, bX12_does_126, bX12_does_127, bX12_does_128, bX12_does_135, bX12_does_140, kX12_does_0, kX12_does_88, kX12_does_94, kX12_does_99, kX12_does_114, kX12_does_126, kX12_does_127, kX12_does_128, kX12_does_135, kX12_does_140, qK_139, qR_139_0, qK_140, qR_139_1, qK_141, qR_139_5, qK_142, qR_139_6, qK_143, qR_139_7, qK_144, qR_139_8, qK_145, qR_139_9, qK_146, qR_139_21, qK_147, qR_139_25, qK_148, qR_139_30, qK_149, qR_139_31, qK_150, qR_139_33, qK_151, qR_139_34, qK_152, qR_139_35, qK_153, qR_139_36, qK_154, qR_139_39, qK_155, qR_139_40, qK_156, qR_139_41, qK_157]
    rw [stay.2 h4]
    exact ⟨rfl, h, zF.rf⟩
  have none' : ∀ t, W k 0 < 10 → W k 0 ≠ 3 → t := fun t h4 h5 => (stay.1 h4 h5).elim
  refine ⟨fun h4 => ?_, fun h4 => ?_, fun h4 => none' _ (by omega) (by omega), fun h4 => none' _ (by omega) (by omega), fun h4 => none' _ (by omega) (by omega), fun h4 => none' _ (by omega) (by omega), fun h4 => none' _ (by omega) (by omega), fun h4 => none' _ (by omega) (by omega), fun h4 => ?_, fun h4 => ?_, fun h4 => ?_, fun h4 => ?_, fun h4 => ?_, trivial⟩
  · rw [qJ_st _ _ _ _ _ (by rfl)]
    exact rest (by omega)
  · have e : W k 0 = 3 := by omega
    have e2 : zdo W k s = zfall s (W k 1) (W k 2) (W k 3) := by
      unfold zdo
      rw [if_neg (by omega), if_neg (by omega), if_pos e]
    obtain ⟨j1, j2, j3⟩ := k3 e
    rw [qJ_st _ _ _ _ _ (by rfl), e2]
    refine qV.go 30 [9999] ok_358 ?_
    simp only [qW_nop, qW_iconst, qW_iloadn, qW_aloadn, qW_istoren, qW_iadd, qW_ifle, qW_goto, qW_tsw, qW_getf, qW_iald, qW_cv1_0, qW_cv2_0, qW_cv3_0, qW_cv4_0, qW_iret1, Nat.reduceAdd, Nat.reduceMul, Nat.reduceBEq, Nat.reduceEqDiff, Nat.reduceLT, Nat.reduceLeDiff, Nat.zero_le, nI_add, nI_mul, nI_cl, qin_eq, qofI, qlg_0, qlg_s, qls_i0, qls_r0, qls_l0, qls_1, qls_2, qkl_i, qkl_r, qkl_l, qkl_n, qIsI_i, qIsL_l, qIsR_r, qint_i, qil_i, qil_r, qil_l, qf4_0, qf4_1, qf4_2, qf4_3, qf2_0, qf2_1, qcs_n, qcs_i, qcs_r, qcs_l, qst_n, qst_c, qJ_0, qJ_st, qJ_go, qfl_I, qfl_Z, qfl_L, qfl_R, qrI_i, qrL_l, qrV_v, qRcv_0, qRcv_s, eq_self, true_and, and_true, true_or, or_true, false_and, and_false, false_or, or_false, ite_true, if_true, if_false, Bool.true_or, Bool.false_or, Bool.or_false, beq_self_eq_true, Bool.false_eq_true, bX12_does_0, bX12_does_88, bX12_does_94, bX12_does_99, bX12_does_114, bX12_does_126, bX12_does_127, bX12_does_128, bX12_does_135, bX12_does_140, kX12_does_0, kX12_does_88, kX12_does_94, kX12_does_99, kX12_does_114, kX12_does_126, kX12_does_127, kX12_does_128, kX12_does_135, kX12_does_140, qK_139, qR_139_0, qK_140, qR_139_1, qK_141, qR_139_5, qK_142, qR_139_6, qK_143, qR_139_7, qK_144, qR_139_8, qK_145, qR_139_9, qK_146, qR_139_21, qK_147, qR_139_25, qK_148, qR_139_30, qK_149, qR_139_31, qK_150, qR_139_33, qK_151, qR_139_34, qK_152, qR_139_35, qK_153, qR_139_36, qK_154, qR_139_39, qK_155, qR_139_40, qK_156, qR_139_41, qK_157]
    simp (disch := omega) only [nI_leI, nI_ltI, nI_eq, nI_cl, qin_eq, nI_add, nI_mul, qb_z, qb_t, qb_f, nI_ne0', Nat.reduceAdd, Bool.false_eq_true, if_false, if_true, true_and, and_true, Nat.reduceEqDiff, not_true_eq_false, not_false_eq_true, false_implies, true_implies, ite_true, ite_false]
    rw [h3]
    refine qBI.of (m_bootsBy h hw hn j3 j1 j2) (by decide) (fun r σ5 h5 => ?_)
    exact ⟨by rw [h5.1]; exact qb_01 _, h5⟩
  · have e : W k 0 = 10 := by omega
    have e2 : zdo W k s = (if s.1 0 5 + W k 1 ≤ 9999 then (true, zsR (zsR (zsC s (zit (W k 1) s.1)) 2 (s.2.2 2 + (zmins (W k 1) s.1).2)) 1 (s.2.2 1 + W k 1)) else (false, s)) := if_pos e
    rw [qJ_st _ _ _ _ _ (by rfl), e2]
    refine qV.go 30 [9999] ok_358 ?_
    simp only [qW_nop, qW_iconst, qW_iloadn, qW_aloadn, qW_istoren, qW_iadd, qW_ifle, qW_goto, qW_tsw, qW_getf, qW_iald, qW_cv1_0, qW_cv2_0, qW_cv3_0, qW_cv4_0, qW_iret1, Nat.reduceAdd, Nat.reduceMul, Nat.reduceBEq, Nat.reduceEqDiff, Nat.reduceLT, Nat.reduceLeDiff, Nat.zero_le, nI_add, nI_mul, nI_cl, qin_eq, qofI, qlg_0, qlg_s, qls_i0, qls_r0, qls_l0, qls_1, qls_2, qkl_i, qkl_r, qkl_l, qkl_n, qIsI_i, qIsL_l, qIsR_r, qint_i, qil_i, qil_r, qil_l, qf4_0, qf4_1, qf4_2, qf4_3, qf2_0, qf2_1, qcs_n, qcs_i, qcs_r, qcs_l, qst_n, qst_c, qJ_0, qJ_st, qJ_go, qfl_I, qfl_Z, qfl_L, qfl_R, qrI_i, qrL_l, qrV_v, qRcv_0, qRcv_s, eq_self, true_and, and_true, true_or, or_true, false_and, and_false, false_or, or_false, ite_true, if_true, if_false, Bool.true_or, Bool.false_or, Bool.or_false, beq_self_eq_true, Bool.false_eq_true, bX12_does_0, bX12_does_88, bX12_does_94, bX12_does_99, bX12_does_114, bX12_does_126, bX12_does_127, bX12_does_128, bX12_does_135, bX12_does_140, kX12_does_0, kX12_does_88, kX12_does_94, kX12_does_99, kX12_does_114, kX12_does_126, kX12_does_127, kX12_does_128, kX12_does_135, kX12_does_140, qK_139, qR_139_0, qK_140, qR_139_1, qK_141, qR_139_5, qK_142, qR_139_6, qK_143, qR_139_7, qK_144, qR_139_8, qK_145, qR_139_9, qK_146, qR_139_21, qK_147, qR_139_25, qK_148, qR_139_30, qK_149, qR_139_31, qK_150, qR_139_33, qK_151, qR_139_34, qK_152, qR_139_35, qK_153, qR_139_36, qK_154, qR_139_39, qK_155, qR_139_40, qK_156, qR_139_41, qK_157]
    refine qBI.of (m_minutesBy h hs (k10 e).2) (by decide) (fun r σ5 h5 => ?_)
    exact ⟨by rw [h5.1]; exact qb_01 _, h5⟩
  · have e : W k 0 = 11 := by omega
    have e2 : zdo W k s = (decide (0 < s.1 0 5 ∨ zpop (zopens s.1) < s.1 0 1), zsC s (zdawn s.1).1) := by
      unfold zdo
      rw [if_neg (by omega), if_pos e]
    rw [qJ_st _ _ _ _ _ (by rfl), e2]
    refine qV.go 30 [9999] ok_358 ?_
    simp only [qW_nop, qW_iconst, qW_iloadn, qW_aloadn, qW_istoren, qW_iadd, qW_ifle, qW_goto, qW_tsw, qW_getf, qW_iald, qW_cv1_0, qW_cv2_0, qW_cv3_0, qW_cv4_0, qW_iret1, Nat.reduceAdd, Nat.reduceMul, Nat.reduceBEq, Nat.reduceEqDiff, Nat.reduceLT, Nat.reduceLeDiff, Nat.zero_le, nI_add, nI_mul, nI_cl, qin_eq, qofI, qlg_0, qlg_s, qls_i0, qls_r0, qls_l0, qls_1, qls_2, qkl_i, qkl_r, qkl_l, qkl_n, qIsI_i, qIsL_l, qIsR_r, qint_i, qil_i, qil_r, qil_l, qf4_0, qf4_1, qf4_2, qf4_3, qf2_0, qf2_1, qcs_n, qcs_i, qcs_r, qcs_l, qst_n, qst_c, qJ_0, qJ_st, qJ_go, qfl_I, qfl_Z, qfl_L, qfl_R, qrI_i, qrL_l, qrV_v, qRcv_0, qRcv_s, eq_self, true_and, and_true, true_or, or_true, false_and, and_false, false_or, or_false, ite_true, if_true, if_false, Bool.true_or, Bool.false_or, Bool.or_false, beq_self_eq_true, Bool.false_eq_true, bX12_does_0, bX12_does_88, bX12_does_94, bX12_does_99, bX12_does_114, bX12_does_126, bX12_does_127, bX12_does_128, bX12_does_135, bX12_does_140, kX12_does_0, kX12_does_88, kX12_does_94, kX12_does_99, kX12_does_114, kX12_does_126, kX12_does_127, kX12_does_128, kX12_does_135, kX12_does_140, qK_139, qR_139_0, qK_140, qR_139_1, qK_141, qR_139_5, qK_142, qR_139_6, qK_143, qR_139_7, qK_144, qR_139_8, qK_145, qR_139_9, qK_146, qR_139_21, qK_147, qR_139_25, qK_148, qR_139_30, qK_149, qR_139_31, qK_150, qR_139_33, qK_151, qR_139_34, qK_152, qR_139_35, qK_153, qR_139_36, qK_154, qR_139_39, qK_155, qR_139_40, qK_156, qR_139_41, qK_157]
    refine qBI.of (m_dawnsBy h hs) (by decide) (fun r σ5 h5 => ?_)
    exact ⟨by rw [h5.1]; exact qb_01 _, h5⟩
  · have e : W k 0 = 12 := by omega
    have e2 : zdo W k s = (decide (0 < zpop (zof s.1 (W k 1))), zsC s (zgive s.1 (W k 1))) := by
      unfold zdo
      rw [if_neg (by omega), if_neg (by omega), if_neg (by omega), if_pos e]
    rw [qJ_st _ _ _ _ _ (by rfl), e2]
    refine qV.go 30 [9999] ok_358 ?_
    simp only [qW_nop, qW_iconst, qW_iloadn, qW_aloadn, qW_istoren, qW_iadd, qW_ifle, qW_goto, qW_tsw, qW_getf, qW_iald, qW_cv1_0, qW_cv2_0, qW_cv3_0, qW_cv4_0, qW_iret1, Nat.reduceAdd, Nat.reduceMul, Nat.reduceBEq, Nat.reduceEqDiff, Nat.reduceLT, Nat.reduceLeDiff, Nat.zero_le, nI_add, nI_mul, nI_cl, qin_eq, qofI, qlg_0, qlg_s, qls_i0, qls_r0, qls_l0, qls_1, qls_2, qkl_i, qkl_r, qkl_l, qkl_n, qIsI_i, qIsL_l, qIsR_r, qint_i, qil_i, qil_r, qil_l, qf4_0, qf4_1, qf4_2, qf4_3, qf2_0, qf2_1, qcs_n, qcs_i, qcs_r, qcs_l, qst_n, qst_c, qJ_0, qJ_st, qJ_go, qfl_I, qfl_Z, qfl_L, qfl_R, qrI_i, qrL_l, qrV_v, qRcv_0, qRcv_s, eq_self, true_and, and_true, true_or, or_true, false_and, and_false, false_or, or_false, ite_true, if_true, if_false, Bool.true_or, Bool.false_or, Bool.or_false, beq_self_eq_true, Bool.false_eq_true, bX12_does_0, bX12_does_88, bX12_does_94, bX12_does_99, bX12_does_114, bX12_does_126, bX12_does_127, bX12_does_128, bX12_does_135, bX12_does_140, kX12_does_0, kX12_does_88, kX12_does_94, kX12_does_99, kX12_does_114, kX12_does_126, kX12_does_127, kX12_does_128, kX12_does_135, kX12_does_140, qK_139, qR_139_0, qK_140, qR_139_1, qK_141, qR_139_5, qK_142, qR_139_6, qK_143, qR_139_7, qK_144, qR_139_8, qK_145, qR_139_9, qK_146, qR_139_21, qK_147, qR_139_25, qK_148, qR_139_30, qK_149, qR_139_31, qK_150, qR_139_33, qK_151, qR_139_34, qK_152, qR_139_35, qK_153, qR_139_36, qK_154, qR_139_39, qK_155, qR_139_40, qK_156, qR_139_41, qK_157]
    refine qBI.of (m_forgives h.1 hw (k12 e)) (by decide) (fun r σ5 h5 => ?_)
    obtain ⟨rfl, a2, f2⟩ := h5
    have hl := zof_lt hw (W k 1)
    have hp : zpop (zof s.1 (W k 1)) ≤ 10 := zpop_le (k := 10) (by omega)
    have b := h.f hn a2 (zPc_m f2)
    have f3 := zPl_m (zPc_m f2)
    rw [qle0, nI_t (by omega)]
    refine ⟨fun h6 => ⟨?_, b, f3⟩, fun h6 => ⟨?_, b, f3⟩⟩
    · rw [decide_eq_false (by omega)]; rfl
    · rw [decide_eq_true (by omega)]; rfl
  · have e : W k 0 = 13 := by omega
    have e2 : zdo W k s = (decide (s.1 1 (W k 1) ≠ W k 2), zsC s (zu s.1 1 (W k 1) (W k 2))) := by
      unfold zdo
      rw [if_neg (by omega), if_neg (by omega), if_neg (by omega), if_neg (by omega), if_pos e]
    rw [qJ_st _ _ _ _ _ (by rfl), e2]
    refine qV.go 30 [9999] ok_358 ?_
    simp only [qW_nop, qW_iconst, qW_iloadn, qW_aloadn, qW_istoren, qW_iadd, qW_ifle, qW_goto, qW_tsw, qW_getf, qW_iald, qW_cv1_0, qW_cv2_0, qW_cv3_0, qW_cv4_0, qW_iret1, Nat.reduceAdd, Nat.reduceMul, Nat.reduceBEq, Nat.reduceEqDiff, Nat.reduceLT, Nat.reduceLeDiff, Nat.zero_le, nI_add, nI_mul, nI_cl, qin_eq, qofI, qlg_0, qlg_s, qls_i0, qls_r0, qls_l0, qls_1, qls_2, qkl_i, qkl_r, qkl_l, qkl_n, qIsI_i, qIsL_l, qIsR_r, qint_i, qil_i, qil_r, qil_l, qf4_0, qf4_1, qf4_2, qf4_3, qf2_0, qf2_1, qcs_n, qcs_i, qcs_r, qcs_l, qst_n, qst_c, qJ_0, qJ_st, qJ_go, qfl_I, qfl_Z, qfl_L, qfl_R, qrI_i, qrL_l, qrV_v, qRcv_0, qRcv_s, eq_self, true_and, and_true, true_or, or_true, false_and, and_false, false_or, or_false, ite_true, if_true, if_false, Bool.true_or, Bool.false_or, Bool.or_false, beq_self_eq_true, Bool.false_eq_true, bX12_does_0, bX12_does_88, bX12_does_94, bX12_does_99, bX12_does_114, bX12_does_126, bX12_does_127, bX12_does_128, bX12_does_135, bX12_does_140, kX12_does_0, kX12_does_88, kX12_does_94, kX12_does_99, kX12_does_114, kX12_does_126, kX12_does_127, kX12_does_128, kX12_does_135, kX12_does_140, qK_139, qR_139_0, qK_140, qR_139_1, qK_141, qR_139_5, qK_142, qR_139_6, qK_143, qR_139_7, qK_144, qR_139_8, qK_145, qR_139_9, qK_146, qR_139_21, qK_147, qR_139_25, qK_148, qR_139_30, qK_149, qR_139_31, qK_150, qR_139_33, qK_151, qR_139_34, qK_152, qR_139_35, qK_153, qR_139_36, qK_154, qR_139_39, qK_155, qR_139_40, qK_156, qR_139_41, qK_157]
    have := k13 e
    refine qBI.of (m_pitches h.1 hw (k13 e).1 (by omega)) (by decide) (fun r σ5 h5 => ?_)
    obtain ⟨rfl, a2, f2⟩ := h5
    exact ⟨qb_01 _, rfl, h.f hn a2 (zPc_m f2), zPl_m (zPc_m f2)⟩
  · have e : W k 0 = 14 := by omega
    have e2 : zdo W k s = zany s := by
      unfold zdo
      rw [if_neg (by omega), if_neg (by omega), if_neg (by omega), if_neg (by omega), if_neg (by omega), if_pos e]
    rw [qJ_st _ _ _ _ _ (by rfl), e2]
    refine qV.go 30 [9999] ok_358 ?_
    simp only [qW_nop, qW_iconst, qW_iloadn, qW_aloadn, qW_istoren, qW_iadd, qW_ifle, qW_goto, qW_tsw, qW_getf, qW_iald, qW_cv1_0, qW_cv2_0, qW_cv3_0, qW_cv4_0, qW_iret1, Nat.reduceAdd, Nat.reduceMul, Nat.reduceBEq, Nat.reduceEqDiff, Nat.reduceLT, Nat.reduceLeDiff, Nat.zero_le, nI_add, nI_mul, nI_cl, qin_eq, qofI, qlg_0, qlg_s, qls_i0, qls_r0, qls_l0, qls_1, qls_2, qkl_i, qkl_r, qkl_l, qkl_n, qIsI_i, qIsL_l, qIsR_r, qint_i, qil_i, qil_r, qil_l, qf4_0, qf4_1, qf4_2, qf4_3, qf2_0, qf2_1, qcs_n, qcs_i, qcs_r, qcs_l, qst_n, qst_c, qJ_0, qJ_st, qJ_go, qfl_I, qfl_Z, qfl_L, qfl_R, qrI_i, qrL_l, qrV_v, qRcv_0, qRcv_s, eq_self, true_and, and_true, true_or, or_true, false_and, and_false, false_or, or_false, ite_true, if_true, if_false, Bool.true_or, Bool.false_or, Bool.or_false, beq_self_eq_true, Bool.false_eq_true, bX12_does_0, bX12_does_88, bX12_does_94, bX12_does_99, bX12_does_114, bX12_does_126, bX12_does_127, bX12_does_128, bX12_does_135, bX12_does_140, kX12_does_0, kX12_does_88, kX12_does_94, kX12_does_99, kX12_does_114, kX12_does_126, kX12_does_127, kX12_does_128, kX12_does_135, kX12_does_140, qK_139, qR_139_0, qK_140, qR_139_1, qK_141, qR_139_5, qK_142, qR_139_6, qK_143, qR_139_7, qK_144, qR_139_8, qK_145, qR_139_9, qK_146, qR_139_21, qK_147, qR_139_25, qK_148, qR_139_30, qK_149, qR_139_31, qK_150, qR_139_33, qK_151, qR_139_34, qK_152, qR_139_35, qK_153, qR_139_36, qK_154, qR_139_39, qK_155, qR_139_40, qK_156, qR_139_41, qK_157]
    refine qBI.of (m_bootsAny h hs) (by decide) (fun r σ5 h5 => ?_)
    exact ⟨by rw [h5.1]; exact qb_01 _, h5⟩
set_option maxRecDepth 20000 in
theorem m_holds {σ : qSg} {W : Nat → Nat → Nat} {n : Nat} {s : zL} (h : zML σ W n s) (hs : zLW W n s) {k : Nat} (hk : k < n) (h15 : 1500 ≤ W k 0) :
    qFI 5 359 [qr 139, qi (nI (88 + 6 * k))] σ (qb (zholds W k s.1)) := by
  have hw := hs.1
  have hn := hs.2.1.1
  have hm := hs.2.2.1
  have hW := h.2.1.2 k hk
  obtain ⟨ka, -, -, -, -, -, k19, k20, -⟩ := hs.2.1.2.1 k hk
  have hl := zopens_lt hw
  have hp : zpop (zopens s.1) ≤ 10 := zpop_le (k := 10) (by omega)
  refine qCI.of [some (qr 139), some (qi (nI (88 + 6 * k))), none, none] ok_359 (Nat.le_of_ble_eq_true rfl) rfl ?_
  have h0 : σ.1 140 (88 + 6 * k) = nI (W k 0) := hW 0 (by decide)
  have h1 : σ.1 140 (88 + 6 * k + 1) = nI (W k 1) := hW 1 (by decide)
  have h2 : σ.1 140 (88 + 6 * k + 2) = nI (W k 2) := hW 2 (by decide)
  have h5 : σ.1 140 (88 + 6 * k + 5) = nI (W k 5) := hW 5 (by decide)
  have fin : W k 0 ≠ 1519 → ∀ v, v = zhv W k s.1 → v < 100000 → ∀ l2 l3 : Option qPV, qV 359 5 (.inl fun r σ' => r = qb (zholds W k s.1) ∧ σ' = σ) 60 [some (qr 139), some (qi (nI (88 + 6 * k))), l2, l3] [qi (nI v)] σ := by
    intro h6 v hv hv2 l2 l3
    obtain ⟨j1, j2⟩ := k20 (by omega)
    refine qV.go 30 [9999] ok_359 ?_
    simp only [qW_nop, qW_iconst, qW_bipush, qW_sipush, qW_iloadn, qW_aloadn, qW_istoren, qW_iadd, qW_isub, qW_ifne, qW_icne, qW_icge, qW_icle, qW_goto, qW_getf, qW_iald, qW_cs1_0, qW_cv1_0, qW_cv2_0, qW_iret1, Nat.reduceAdd, Nat.reduceMul, Nat.reduceBEq, Nat.reduceEqDiff, Nat.reduceLT, Nat.reduceLeDiff, Nat.zero_le, nI_add, nI_mul, nI_cl, qin_eq, qofI, qlg_0, qlg_s, qls_i0, qls_r0, qls_l0, qls_1, qls_2, qkl_i, qkl_r, qkl_l, qkl_n, qIsI_i, qIsL_l, qIsR_r, qint_i, qil_i, qil_r, qil_l, qf4_0, qf4_1, qf4_2, qf4_3, qf2_0, qf2_1, qcs_n, qcs_i, qcs_r, qcs_l, qst_n, qst_c, qJ_0, qJ_st, qJ_go, qfl_I, qfl_Z, qfl_L, qfl_R, qrI_i, qrL_l, qrV_v, qRcv_0, qRcv_s, eq_self, true_and, and_true, true_or, or_true, false_and, and_false, false_or, or_false, ite_true, if_true, if_false, Bool.true_or, Bool.false_or, Bool.or_false, beq_self_eq_true, Bool.false_eq_true, bX12_holds_0, bX12_holds_36, bX12_holds_37, bX12_holds_38, bX12_holds_54, bX12_holds_60, bX12_holds_90, bX12_holds_94, bX12_holds_123, bX12_holds_127, bX12_holds_143, bX12_holds_144, kX12_holds_0, kX12_holds_36, kX12_holds_37, kX12_holds_38, kX12_holds_54, kX12_holds_60, kX12_holds_90, kX12_holds_94, kX12_holds_123, kX12_holds_127, kX12_holds_143, kX12_holds_144, qK_139, qR_139_0, qK_140, qR_139_1, qK_141, qR_139_5, qK_142, qR_139_6, qK_143, qR_139_7, qK_144, qR_139_8, qK_145, qR_139_9, qK_146, qR_139_21, qK_147, qR_139_25, qK_148, qR_139_30, qK_149, qR_139_31, qK_150, qR_139_33, qK_151, qR_139_34, qK_152, qR_139_35, qK_153, qR_139_36, qK_154, qR_139_39, qK_155, qR_139_40, qK_156, qR_139_41, qK_157]
    simp (disch := omega) only [nI_leI, nI_ltI, nI_eq, nI_cl, qin_eq, nI_add, nI_mul, qb_z, qb_t, qb_f, nI_ne0', Nat.reduceAdd, Bool.false_eq_true, if_false, if_true, true_and, and_true, Nat.reduceEqDiff, not_true_eq_false, not_false_eq_true, false_implies, true_implies, ite_true, ite_false]
    rw [h5, h2]
    have e : zholds W k s.1 = (if W k 5 = 60 then decide (v < W k 2) else if W k 5 = 62 then decide (W k 2 < v) else decide (v = W k 2)) := by
      rw [hv]
      exact if_neg h6
    rw [e]
    simp (disch := omega) only [nI_leI, nI_ltI, nI_eq, nI_cl, qin_eq, nI_add, nI_mul, qb_z, qb_t, qb_f, nI_ne0', Nat.reduceAdd, Bool.false_eq_true, if_false, if_true, true_and, and_true, Nat.reduceEqDiff, not_true_eq_false, not_false_eq_true, false_implies, true_implies, ite_true, ite_false]
    refine ⟨fun a => ⟨fun b => ⟨fun c => ?_, fun c => ?_⟩, fun b => ⟨fun c => ?_, fun c => ?_⟩⟩, fun a => ⟨fun c => ?_, fun c => ?_⟩⟩
    · rw [if_neg a, if_neg b, decide_eq_false c]; rfl
    · rw [if_neg a, if_neg b, decide_eq_true c]; rfl
    · rw [if_neg a, if_pos b, decide_eq_false (by omega)]; rfl
    · rw [if_neg a, if_pos b, decide_eq_true (by omega)]; rfl
    · rw [if_pos a, decide_eq_false (by omega)]; rfl
    · rw [if_pos a, decide_eq_true (by omega)]; rfl
  refine qV.go 30 [60] ok_359 ?_
  simp only [qW_nop, qW_iconst, qW_bipush, qW_sipush, qW_iloadn, qW_aloadn, qW_istoren, qW_iadd, qW_isub, qW_ifne, qW_icne, qW_icge, qW_icle, qW_goto, qW_getf, qW_iald, qW_cs1_0, qW_cv1_0, qW_cv2_0, qW_iret1, Nat.reduceAdd, Nat.reduceMul, Nat.reduceBEq, Nat.reduceEqDiff, Nat.reduceLT, Nat.reduceLeDiff, Nat.zero_le, nI_add, nI_mul, nI_cl, qin_eq, qofI, qlg_0, qlg_s, qls_i0, qls_r0, qls_l0, qls_1, qls_2, qkl_i, qkl_r, qkl_l, qkl_n, qIsI_i, qIsL_l, qIsR_r, qint_i, qil_i, qil_r, qil_l, qf4_0, qf4_1, qf4_2, qf4_3, qf2_0, qf2_1, qcs_n, qcs_i, qcs_r, qcs_l, qst_n, qst_c, qJ_0, qJ_st, qJ_go, qfl_I, qfl_Z, qfl_L, qfl_R, qrI_i, qrL_l, qrV_v, qRcv_0, qRcv_s, eq_self, true_and, and_true, true_or, or_true, false_and, and_false, false_or, or_false, ite_true, if_true, if_false, Bool.true_or, Bool.false_or, Bool.or_false, beq_self_eq_true, Bool.false_eq_true, bX12_holds_0, bX12_holds_36, bX12_holds_37, bX12_holds_38, bX12_holds_54, bX12_holds_60, bX12_holds_90, bX12_holds_94, bX12_holds_123, bX12_holds_127, bX12_holds_143, bX12_holds_144, kX12_holds_0, kX12_holds_36, kX12_holds_37, kX12_holds_38, kX12_holds_54, kX12_holds_60, kX12_holds_90, kX12_holds_94, kX12_holds_123, kX12_holds_127, kX12_holds_143, kX12_holds_144, qK_139, qR_139_0, qK_140, qR_139_1, qK_141, qR_139_5, qK_142, qR_139_6, qK_143, qR_139_7, qK_144, qR_139_8, qK_145, qR_139_9, qK_146, qR_139_21, qK_147, qR_139_25, qK_148, qR_139_30, qK_149, qR_139_31, qK_150, qR_139_33, qK_151, qR_139_34, qK_152, qR_139_35, qK_153, qR_139_36, qK_154, qR_139_39, qK_155, qR_139_40, qK_156, qR_139_41, qK_157]
  simp only [nI_c (show 88 + 6 * k < 2147483648 by omega), nI_c (show 88 + 6 * k + 1 < 2147483648 by omega)]
  rw [h0, h1, nI_sub h15]
  simp (disch := omega) only [nI_leI, nI_ltI, nI_eq, nI_cl, qin_eq, nI_add, nI_mul, qb_z, qb_t, qb_f, nI_ne0', Nat.reduceAdd, Bool.false_eq_true, if_false, if_true, true_and, and_true, Nat.reduceEqDiff, not_true_eq_false, not_false_eq_true, false_implies, true_implies, ite_true, ite_false]
  refine ⟨fun a => ⟨fun b => ?_, fun b => ?_⟩, fun a => ?_⟩
  · rw [zM_s h.1 5 (by decide)]
    exact fin (by omega) _ (by rw [zhv, if_neg (by omega)]) (by omega) _ _
  · refine qBI.fn (m_openOnes h.1 hw) (by decide) (qBI.fn (m_bits σ (by omega)) (by decide) ?_)
    exact fin (by omega) _ (by rw [zhv, if_pos (by omega)]) (by omega) _ _
  · refine qBI.fn (m_openOf h.1 hw (k19 (by omega))) (by decide) ?_
    have hl := zof_lt hw (W k 1)
    have e : zholds W k s.1 = zUp s.1 (W k 1) := if_pos (by omega)
    rw [e, zUp]
    simp (disch := omega) only [nI_leI, nI_ltI, nI_eq, nI_cl, qin_eq, nI_add, nI_mul, qb_z, qb_t, qb_f, nI_ne0', Nat.reduceAdd, Bool.false_eq_true, if_false, if_true, true_and, and_true, Nat.reduceEqDiff, not_true_eq_false, not_false_eq_true, false_implies, true_implies, ite_true, ite_false]
    refine ⟨fun b => ?_, fun b => ?_⟩
    · rw [decide_eq_false b]; rfl
    · rw [decide_eq_true b]; rfl
