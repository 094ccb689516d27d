/-! the reference: whom to have yield, where to pitch -/
def zgiveS (C : zC) (s : Nat) : Nat → zC
  | 0 => C
  | b + 1 => if s.testBit b then zgive (zgiveS C s b) b else zgiveS C s b
theorem zgiveS_W {C : zC} (hw : zW C) (s : Nat) : ∀ b, zW (zgiveS C s b)
  | 0 => hw
  | b + 1 => by
    simp only [zgiveS]
    split
    · exact zgive_W (zgiveS_W hw s b) b
    · exact zgiveS_W hw s b
theorem zgiveS_q (C : zC) (s f i : Nat) (h9 : f ≠ 9) (h5 : f ≠ 5) : ∀ b, zgiveS C s b f i = C f i
  | 0 => rfl
  | b + 1 => by
    simp only [zgiveS]
    split
    · rw [zgive_q _ _ _ _ h9 h5]; exact zgiveS_q C s f i h9 h5 b
    · exact zgiveS_q C s f i h9 h5 b
def zsf (C : zC) (k : Nat) : Nat → Int × Nat
  | 0 => (-1, 1000000)
  | s + 1 => if zpop s = k ∧ zbrk (zgiveS C s (C 0 0)) < (zsf C k s).2 then ((s : Int), zbrk (zgiveS C s (C 0 0))) else zsf C k s
/-- the soonest set of k boys (-1: none), breakfast by it -/
def zsoon (C : zC) (k : Nat) : Int × Nat := zsf C k (2 ^ C 0 0)
theorem zsf_bd {C : zC} (hw : zW C) (hm : C 0 5 ≤ 99000) (k : Nat) : ∀ s, s ≤ 2 ^ C 0 0 → (zsf C k s).2 ≤ 1000000 ∧ -1 ≤ (zsf C k s).1 ∧ (zsf C k s).1 < ((2 ^ C 0 0 : Nat) : Int)
  | 0, _ => by
    have := Nat.two_pow_pos (C 0 0)
    simp only [zsf]
    exact ⟨Nat.le_refl _, Int.le_refl _, by omega⟩
  | s + 1, h => by
    have ih := zsf_bd hw hm k s (by omega)
    simp only [zsf]
    split
    · have := zbrk_le (zgiveS_W hw s (C 0 0)) (by rw [zgiveS_q _ _ _ _ (by decide) (by decide)]; exact hm)
      refine ⟨?_, ?_, ?_⟩
      · show zbrk _ ≤ _
        omega
      · show -1 ≤ (s : Int)
        omega
      · have h2 : s < 2 ^ C 0 0 := by omega
        show (s : Int) < ((2 ^ C 0 0 : Nat) : Int)
        omega
    · exact ih
def zPs (a j : Nat) : Prop := (a = 140 ∧ ((2280 ≤ j ∧ j < 2368) ∨ (2736 ≤ j ∧ j < 2824))) ∨ (a = 139 ∧ (j = 24 ∨ j = 26 ∨ j = 27))
set_option maxRecDepth 20000 in
theorem m_laysSoonest {σ : qSg} {C : zC} (h : zM σ 0 C) (hw : zW C) (hm : C 0 5 ≤ 99000) {k : Nat} (hk : k < 100) : qCV 9 315 [qr 139, qi (nI k)] σ (fun σ' => σ'.1 139 26 = iI (zsoon C k).1 ∧ σ'.1 139 27 = nI (zsoon C k).2 ∧ zF zPs σ σ') := by
  obtain ⟨wb, wq, ww1, ww2, wh1, wh2, wo, wm, wB, wQ⟩ := id hw
  have hp2 := zpow_le hw
  have hp := Nat.two_pow_pos (C 0 0)
  refine qCV.of [some (qr 139), some (qi (nI k)), none, none] ok_315 (Nat.le_of_ble_eq_true rfl) rfl ?_
  refine qV.go 30 [21] ok_315 ?_
  simp only [qW_nop, qW_iconst, qW_iconstm, qW_sipush, qW_ldcw, qW_iloadn, qW_aloadn, qW_istoren, qW_iinc, qW_pop, qW_ifeq, qW_iceq, qW_iclt, qW_icge, qW_icgt, qW_goto, qW_getf, qW_iald, qW_vret, qW_cs1_0, qW_cv1_0, qW_cv2_0, qW_cv2_2, qW_cv3_0, qW_putf0, Nat.reduceAdd, Nat.reduceMul, Nat.reduceBEq, Nat.reduceEqDiff, Nat.reduceLT, Nat.reduceLeDiff, Nat.zero_le, nI_add, nI_mul, nI_cl, qin_eq, qofI, qlg_0, qlg_s, qls_i0, qls_r0, qls_l0, qls_1, qls_2, qkl_i, qkl_r, qkl_l, qkl_n, qIsI_i, qIsL_l, qIsR_r, qint_i, qil_i, qil_r, qil_l, qf4_0, qf4_1, qf4_2, qf4_3, qf2_0, qf2_1, qcs_n, qcs_i, qcs_r, qcs_l, qst_n, qst_c, qJ_0, qJ_st, qJ_go, qfl_I, qfl_Z, qfl_L, qfl_R, qrI_i, qrL_l, qrV_v, qRcv_0, qRcv_s, eq_self, true_and, and_true, true_or, or_true, false_and, and_false, false_or, or_false, ite_true, if_true, if_false, Bool.true_or, Bool.false_or, Bool.or_false, beq_self_eq_true, Bool.false_eq_true, bX12_laysSoonest_0, bX12_laysSoonest_21, bX12_laysSoonest_40, bX12_laysSoonest_42, bX12_laysSoonest_67, bX12_laysSoonest_73, bX12_laysSoonest_96, bX12_laysSoonest_106, bX12_laysSoonest_112, kX12_laysSoonest_0, kX12_laysSoonest_21, kX12_laysSoonest_40, kX12_laysSoonest_42, kX12_laysSoonest_67, kX12_laysSoonest_73, kX12_laysSoonest_96, kX12_laysSoonest_106, kX12_laysSoonest_112, qK_139, qR_139_0, qK_140, qR_139_1, qK_141, qR_139_5, qK_142, qR_139_6, qK_143, qR_139_7, qK_144, qR_139_8, qK_145, qR_139_9, qK_146, qR_139_21, qK_147, qR_139_25, qK_148, qR_139_30, qK_149, qR_139_31, qK_150, qR_139_33, qK_151, qR_139_34, qK_152, qR_139_35, qK_153, qR_139_36, qK_154, qR_139_39, qK_155, qR_139_40, qK_156, qR_139_41, qK_157]
  refine qBV.of (m_keeps _ (by decide) (by decide)) (by decide) (fun σ0 h0 => ?_)
  have key := qdown (n := 2 ^ C 0 0) (P := fun s => ∀ (σ1 : qSg) (l3 : Option qPV), zF zPs σ σ1 → (∀ j, j < 88 → σ1.1 140 (2736 + j) = σ.1 140 j) → σ1.1 139 26 = iI (zsf C k s).1 → σ1.1 139 27 = nI (zsf C k s).2 →
    qV 315 9 (.inr (.inr fun σ' => σ'.1 139 26 = iI (zsoon C k).1 ∧ σ'.1 139 27 = nI (zsoon C k).2 ∧ zF zPs σ σ')) 21 [some (qr 139), some (qi (nI k)), some (qi (nI s)), l3] [] σ1) (fun s hs ih => ?_)
  · subst h0
    refine key 0 (Nat.zero_le _) _ none ⟨fun a j hp => ?_, rfl⟩ (fun j hj => ?_) ?_ ?_
    · unfold zPs at hp
      simp only [zmv, qwi_1]
      rw [if_neg (by omega), if_neg (by omega), if_neg (by omega)]
    · simp only [zmv, qwi_1, true_and]
      rw [if_pos (by omega), if_neg (by omega), if_neg (by omega), show 0 + (2736 + j - 2736) = j by omega]
    · simp only [zmv, qwi_1]
      rw [if_neg (by omega), if_neg (by omega), if_pos (by simp)]
      rfl
    · simp only [zmv, qwi_1]
      rw [if_neg (by omega), if_pos (by simp)]
      rfl
  · intro σ1 l3 f1 k1 s1 b1
    have a1 : zM σ1 0 C := h.keep hw fun j hj => by rw [Nat.zero_add]; exact f1.1 _ _ (by unfold zPs; omega)
    have bd := zsf_bd hw hm k s hs
    have st : zsf C k (s + 1) = if zpop s = k ∧ zbrk (zgiveS C s (C 0 0)) < (zsf C k s).2 then ((s : Int), zbrk (zgiveS C s (C 0 0))) else zsf C k s := rfl
    have hfin : s = 2 ^ C 0 0 → zsoon C k = zsf C k s := fun e => by rw [e]; rfl
    generalize zsf C k s = S at s1 b1 bd st hfin
    refine qV.go 30 [21, 42] ok_315 ?_
    simp only [qW_nop, qW_iconst, qW_iconstm, qW_sipush, qW_ldcw, qW_iloadn, qW_aloadn, qW_istoren, qW_iinc, qW_pop, qW_ifeq, qW_iceq, qW_iclt, qW_icge, qW_icgt, qW_goto, qW_getf, qW_iald, qW_vret, qW_cs1_0, qW_cv1_0, qW_cv2_0, qW_cv2_2, qW_cv3_0, qW_putf0, Nat.reduceAdd, Nat.reduceMul, Nat.reduceBEq, Nat.reduceEqDiff, Nat.reduceLT, Nat.reduceLeDiff, Nat.zero_le, nI_add, nI_mul, nI_cl, qin_eq, qofI, qlg_0, qlg_s, qls_i0, qls_r0, qls_l0, qls_1, qls_2, qkl_i, qkl_r, qkl_l, qkl_n, qIsI_i, qIsL_l, qIsR_r, qint_i, qil_i, qil_r, qil_l, qf4_0, qf4_1, qf4_2, qf4_3, qf2_0, qf2_1, qcs_n, qcs_i, qcs_r, qcs_l, qst_n, qst_c, qJ_0, qJ_st, qJ_go, qfl_I, qfl_Z, qfl_L, qfl_R, qrI_i, qrL_l, qrV_v, qRcv_0, qRcv_s, eq_self, true_and, and_true, true_or, or_true, false_and, and_false, false_or, or_false, ite_true, if_true, if_false, Bool.true_or, Bool.false_or, Bool.or_false, beq_self_eq_true, Bool.false_eq_true, bX12_laysSoonest_0, bX12_laysSoonest_21, bX12_laysSoonest_40, bX12_laysSoonest_42, bX12_laysSoonest_67, bX12_laysSoonest_73, bX12_laysSoonest_96, bX12_laysSoonest_106, bX12_laysSoonest_112, kX12_laysSoonest_0, kX12_laysSoonest_21, kX12_laysSoonest_40, kX12_laysSoonest_42, kX12_laysSoonest_67, kX12_laysSoonest_73, kX12_laysSoonest_96, kX12_laysSoonest_106, kX12_laysSoonest_112, qK_139, qR_139_0, qK_140, qR_139_1, qK_141, qR_139_5, qK_142, qR_139_6, qK_143, qR_139_7, qK_144, qR_139_8, qK_145, qR_139_9, qK_146, qR_139_21, qK_147, qR_139_25, qK_148, qR_139_30, qK_149, qR_139_31, qK_150, qR_139_33, qK_151, qR_139_34, qK_152, qR_139_35, qK_153, qR_139_36, qK_154, qR_139_39, qK_155, qR_139_40, qK_156, qR_139_41, qK_157]
    refine qBI.fn (m_everybody a1 hw) (by decide) ?_
    simp (disch := omega) only [nI_leI, nI_ltI, nI_eq, nI_cl, qin_eq, nI_add, nI_mul, qb_z, qb_t, qb_f, nI_ne0', Nat.reduceAdd, Bool.false_eq_true, if_false, if_true, true_and, and_true, Nat.reduceEqDiff, not_true_eq_false, not_false_eq_true, false_implies, true_implies, ite_true, ite_false]
    refine ⟨fun h1 => ?_, fun h1 => ?_⟩
    · rw [hfin (by omega)]
      exact ⟨s1, b1, f1⟩
    · have hs1 : s < 2 ^ C 0 0 := by omega
      have hz := zpop_le (n := s) (k := 8) (by omega)
      refine qBI.fn (m_bits σ1 (by omega)) (by decide) ?_
      simp (disch := omega) only [nI_leI, nI_ltI, nI_eq, nI_cl, qin_eq, nI_add, nI_mul, qb_z, qb_t, qb_f, nI_ne0', Nat.reduceAdd, Bool.false_eq_true, if_false, if_true, true_and, and_true, Nat.reduceEqDiff, not_true_eq_false, not_false_eq_true, false_implies, true_implies, ite_true, ite_false]
      refine ⟨fun h2 => ?_, fun h2 => ?_⟩
      · refine qdown (n := C 0 0) (P := fun b => ∀ σ2, zM σ2 0 (zgiveS C s b) → zF zPc σ1 σ2 → qV 315 9 (.inr (.inr fun σ' => σ'.1 139 26 = iI (zsoon C k).1 ∧ σ'.1 139 27 = nI (zsoon C k).2 ∧ zF zPs σ σ')) 42 [some (qr 139), some (qi (nI k)), some (qi (nI s)), some (qi (nI b))] [] σ2) (fun b hb ih2 => ?_) 0 (Nat.zero_le _) σ1 a1 zF.rf
        intro σ2 a2 f2
        have w2 := zgiveS_W hw s b
        have e00 := zgiveS_q C s 0 0 (by decide) (by decide) b
        have e05 := zgiveS_q C s 0 5 (by decide) (by decide) b
        have hs2 : zgiveS C s (b + 1) = if s.testBit b then zgive (zgiveS C s b) b else zgiveS C s b := rfl
        have hfin2 : b = C 0 0 → zgiveS C s (C 0 0) = zgiveS C s b := fun e => by rw [e]
        generalize zgiveS C s b = U at a2 w2 e00 e05 hs2 hfin2
        refine qV.go 30 [21, 42] ok_315 ?_
        simp only [qW_nop, qW_iconst, qW_iconstm, qW_sipush, qW_ldcw, qW_iloadn, qW_aloadn, qW_istoren, qW_iinc, qW_pop, qW_ifeq, qW_iceq, qW_iclt, qW_icge, qW_icgt, qW_goto, qW_getf, qW_iald, qW_vret, qW_cs1_0, qW_cv1_0, qW_cv2_0, qW_cv2_2, qW_cv3_0, qW_putf0, Nat.reduceAdd, Nat.reduceMul, Nat.reduceBEq, Nat.reduceEqDiff, Nat.reduceLT, Nat.reduceLeDiff, Nat.zero_le, nI_add, nI_mul, nI_cl, qin_eq, qofI, qlg_0, qlg_s, qls_i0, qls_r0, qls_l0, qls_1, qls_2, qkl_i, qkl_r, qkl_l, qkl_n, qIsI_i, qIsL_l, qIsR_r, qint_i, qil_i, qil_r, qil_l, qf4_0, qf4_1, qf4_2, qf4_3, qf2_0, qf2_1, qcs_n, qcs_i, qcs_r, qcs_l, qst_n, qst_c, qJ_0, qJ_st, qJ_go, qfl_I, qfl_Z, qfl_L, qfl_R, qrI_i, qrL_l, qrV_v, qRcv_0, qRcv_s, eq_self, true_and, and_true, true_or, or_true, false_and, and_false, false_or, or_false, ite_true, if_true, if_false, Bool.true_or, Bool.false_or, Bool.or_false, beq_self_eq_true, Bool.false_eq_true, bX12_laysSoonest_0, bX12_laysSoonest_21, bX12_laysSoonest_40, bX12_laysSoonest_42, bX12_laysSoonest_67, bX12_laysSoonest_73, bX12_laysSoonest_96, bX12_laysSoonest_106, bX12_laysSoonest_112, kX12_laysSoonest_0, kX12_laysSoonest_21, kX12_laysSoonest_40, kX12_laysSoonest_42, kX12_laysSoonest_67, kX12_laysSoonest_73, kX12_laysSoonest_96, kX12_laysSoonest_106, kX12_laysSoonest_112, qK_139, qR_139_0, qK_140, qR_139_1, qK_141, qR_139_5, qK_142, qR_139_6, qK_143, qR_139_7, qK_144, qR_139_8, qK_145, qR_139_9, qK_146, qR_139_21, qK_147, qR_139_25, qK_148, qR_139_30, qK_149, qR_139_31, qK_150, qR_139_33, qK_151, qR_139_34, qK_152, qR_139_35, qK_153, qR_139_36, qK_154, qR_139_39, qK_155, qR_139_40, qK_156, qR_139_41, qK_157]
        rw [zM_s a2 0 (by decide), e00]
        simp (disch := omega) only [nI_leI, nI_ltI, nI_eq, nI_cl, qin_eq, nI_add, nI_mul, qb_z, qb_t, qb_f, nI_ne0', Nat.reduceAdd, Bool.false_eq_true, if_false, if_true, true_and, and_true, Nat.reduceEqDiff, not_true_eq_false, not_false_eq_true, false_implies, true_implies, ite_true, ite_false]
        refine ⟨fun h3 => ?_, fun h3 => ?_⟩
        · rw [hfin2 (by omega)] at st
          have hbk := zbrk_le w2 (by omega)
          refine qBI.of (m_breakfastNow a2 w2 (by omega)) (by decide) (fun r σ3 h4 => ?_)
          obtain ⟨rfl, f3⟩ := h4
          refine qBV.of (m_restores σ3 (by decide) (by decide)) (by decide) (fun σ4 h5 => ?_)
          subst h5
          have e3 : ∀ j, j < 88 → σ3.1 140 (2736 + j) = σ.1 140 j := fun j hj => by
            rw [f3.1 _ _ (by unfold zPk; omega), f2.1 _ _ (by unfold zPc; omega)]
            exact k1 j hj
          have f4 : zF zPs σ (zmv σ3 140 2736 0 88) := by
            refine ⟨fun a j hp => ?_, by show σ3.2 = σ.2; rw [f3.2, f2.2, f1.2]⟩
            simp only [zmv]
            by_cases e : a = 140 ∧ 0 ≤ j ∧ j < 0 + 88
            · obtain ⟨rfl, e1, e2⟩ := e
              rw [if_pos ⟨rfl, e1, e2⟩, show j - 0 = j by omega]
              exact e3 j (by omega)
            · rw [if_neg e, f3.1 a j (by unfold zPk; unfold zPs at hp; omega), f2.1 a j (by unfold zPc; omega)]
              exact f1.1 a j hp
          have k4 : ∀ j, j < 88 → (zmv σ3 140 2736 0 88).1 140 (2736 + j) = σ.1 140 j := fun j hj => by
            simp only [zmv]
            rw [if_neg (by omega)]
            exact e3 j hj
          have s4 : (zmv σ3 140 2736 0 88).1 139 26 = iI S.1 := by
            simp only [zmv]
            rw [if_neg (by omega), f3.1 _ _ (by unfold zPk; omega), f2.1 _ _ (by unfold zPc; omega)]
            exact s1
          have b4 : (zmv σ3 140 2736 0 88).1 139 27 = nI S.2 := by
            simp only [zmv]
            rw [if_neg (by omega), f3.1 _ _ (by unfold zPk; omega), f2.1 _ _ (by unfold zPc; omega)]
            exact b1
          rw [b4]
          simp (disch := omega) only [nI_leI, nI_ltI, nI_eq, nI_cl, qin_eq, nI_add, nI_mul, qb_z, qb_t, qb_f, nI_ne0', Nat.reduceAdd, Bool.false_eq_true, if_false, if_true, true_and, and_true, Nat.reduceEqDiff, not_true_eq_false, not_false_eq_true, false_implies, true_implies, ite_true, ite_false]
          refine ⟨fun h6 => ?_, fun h6 => ?_⟩
          · rw [if_pos ⟨h2, h6⟩] at st
            have := ih hs1 (qwi (qwi (zmv σ3 140 2736 0 88) 139 27 (nI (zbrk U))) 139 26 (nI s)) (some (qi (nI (zbrk U)))) ((f4.tr (zF.wi (by unfold zPs; omega))).tr (zF.wi (by unfold zPs; omega))) (fun j hj => by
              simp only [qwi_1]
              rw [if_neg (by omega), if_neg (by omega)]
              exact k4 j hj)
            rw [st] at this
            refine this ?_ ?_
            · rw [qwi_1, if_pos ⟨rfl, rfl⟩, iI_nat]
            · rw [qwi_1, if_neg (by omega), qwi_1, if_pos ⟨rfl, rfl⟩]
          · rw [if_neg (by omega)] at st
            have := ih hs1 _ (some (qi (nI (zbrk U)))) f4 k4
            rw [st] at this
            exact this s4 b4
        · have hb1 : b < C 0 0 := by omega
          refine qBI.fn (m_isIn σ2 (by omega) (by omega)) (by decide) ?_
          simp (disch := omega) only [nI_leI, nI_ltI, nI_eq, nI_cl, qin_eq, nI_add, nI_mul, qb_z, qb_t, qb_f, nI_ne0', Nat.reduceAdd, Bool.false_eq_true, if_false, if_true, true_and, and_true, Nat.reduceEqDiff, not_true_eq_false, not_false_eq_true, false_implies, true_implies, ite_true, ite_false]
          refine ⟨fun h4 => ?_, fun h4 => ?_⟩
          · rw [if_neg (by rw [h4]; decide)] at hs2
            have := ih2 hb1 σ2
            rw [hs2] at this
            exact this a2 f2
          · rw [if_pos (by simpa using h4)] at hs2
            refine qBI.of (m_forgives a2 w2 (by omega)) (by decide) (fun r σ3 h5 => ?_)
            obtain ⟨-, a3, f3⟩ := h5
            have := ih2 hb1 σ3
            rw [hs2] at this
            exact this a3 (f2.tr f3)
      · rw [if_neg (by omega)] at st
        have := ih hs1 σ1 l3 f1 k1
        rw [st] at this
        exact this s1 b1
set_option maxRecDepth 20000 in
theorem m_cells {σ : qSg} {C : zC} (h : zM σ 0 C) (hw : zW C) : qFI 1 253 [qr 139] σ (nI (C 0 2 * C 0 3)) := by
  obtain ⟨wb, wq, ww1, ww2, wh1, wh2, wo, wm, wB, wQ⟩ := id hw
  refine qCI.of [some (qr 139)] ok_253 (Nat.le_of_ble_eq_true rfl) rfl ?_
  refine qV.go 30 [9999] ok_253 ?_
  simp only [qW_nop, qW_iconst, qW_aloadn, qW_imul, qW_getf, qW_iald, qW_iret0, Nat.reduceAdd, Nat.reduceMul, Nat.reduceBEq, Nat.reduceEqDiff, Nat.reduceLT, Nat.reduceLeDiff, Nat.zero_le, nI_add, nI_mul, nI_cl, qin_eq, qofI, qlg_0, qlg_s, qls_i0, qls_r0, qls_l0, qls_1, qls_2, qkl_i, qkl_r, qkl_l, qkl_n, qIsI_i, qIsL_l, qIsR_r, qint_i, qil_i, qil_r, qil_l, qf4_0, qf4_1, qf4_2, qf4_3, qf2_0, qf2_1, qcs_n, qcs_i, qcs_r, qcs_l, qst_n, qst_c, qJ_0, qJ_st, qJ_go, qfl_I, qfl_Z, qfl_L, qfl_R, qrI_i, qrL_l, qrV_v, qRcv_0, qRcv_s, eq_self, true_and, and_true, true_or, or_true, false_and, and_false, false_or, or_false, ite_true, if_true, if_false, Bool.true_or, Bool.false_or, Bool.or_false, beq_self_eq_true, Bool.false_eq_true, bX12_cells_0, kX12_cells_0, qK_139, qR_139_0, qK_140, qR_139_1, qK_141, qR_139_5, qK_142, qR_139_6, qK_143, qR_139_7, qK_144, qR_139_8, qK_145, qR_139_9, qK_146, qR_139_21, qK_147, qR_139_25, qK_148, qR_139_30, qK_149, qR_139_31, qK_150, qR_139_33, qK_151, qR_139_34, qK_152, qR_139_35, qK_153, qR_139_36, qK_154, qR_139_39, qK_155, qR_139_40, qK_156, qR_139_41, qK_157]
  rw [zM_s h 2 (by decide), zM_s h 3 (by decide), nI_mul]
theorem zbf_bd {C : zC} (hw : zW C) (hm : C 0 5 ≤ 99000) (b : Nat) : ∀ c, c ≤ C 0 2 * C 0 3 → (zbf C b c).2 ≤ 1000000 ∧ (0 < c → (zbf C b c).2 ≤ 130 ∧ (zbf C b c).1 < c)
  | 0, _ => ⟨Nat.le_refl _, fun h => absurd h (by omega)⟩
  | c + 1, h => by
    have ih := zbf_bd hw hm b c (by omega)
    have h1 := zbrk_le (zu1_W (b := b) hw (show c < C 0 2 * C 0 3 by omega)) (by rw [zu_ne (by omega)]; exact hm)
    simp only [zbf]
    split
    · exact ⟨by show zbrk _ ≤ _; omega, fun _ => ⟨h1, by show c < c + 1; omega⟩⟩
    · refine ⟨ih.1, fun _ => ?_⟩
      by_cases e : c = 0
      · subst e
        rename_i hne
        have : (zbf C b 0).2 = 1000000 := rfl
        omega
      · have := ih.2 (by omega)
        omega
def zPb (a j : Nat) : Prop := (a = 140 ∧ 2280 ≤ j ∧ j < 2368) ∨ (a = 139 ∧ (j = 24 ∨ j = 28 ∨ j = 29))
theorem zu_zu {C : zC} {f i v w : Nat} : zu (zu C f i v) f i w = zu C f i w := by
  funext g j
  simp only [zu]
  split <;> rfl
theorem zu_self {C : zC} {f i : Nat} : zu C f i (C f i) = C := by
  funext g j
  simp only [zu]
  split
  · rename_i h
    rw [h.1, h.2]
  · rfl
set_option maxRecDepth 20000 in
theorem m_laysBest {σ : qSg} {C : zC} (h : zM σ 0 C) (hw : zW C) (hm : C 0 5 ≤ 99000) {b : Nat} (hb : b < C 0 0) : qCV 9 318 [qr 139, qi (nI b)] σ (fun σ' => σ'.1 139 28 = nI (zbest C b).1 ∧ σ'.1 139 29 = nI (zbest C b).2 ∧ zF zPb σ σ') := by
  obtain ⟨wb, wq, ww1, ww2, wh1, wh2, wo, wm, wB, wQ⟩ := id hw
  have g := wB b hb
  have gm : C 0 2 * C 0 3 ≤ 6 * 6 := Nat.mul_le_mul ww2 wh2
  have gp : 0 < C 0 2 * C 0 3 := Nat.mul_pos (by omega) (by omega)
  refine qCV.of [some (qr 139), some (qi (nI b)), none, none, none] ok_318 (Nat.le_of_ble_eq_true rfl) rfl ?_
  refine qV.go 30 [16] ok_318 ?_
  simp only [qW_nop, qW_iconst, qW_ldcw, qW_iloadn, qW_iload, qW_aloadn, qW_istoren, qW_istore, qW_iinc, qW_iclt, qW_icge, qW_goto, qW_getf, qW_iast, qW_vret, qW_cs1_0, qW_cv1_0, qW_cv3_0, qW_putf0, Nat.reduceAdd, Nat.reduceMul, Nat.reduceBEq, Nat.reduceEqDiff, Nat.reduceLT, Nat.reduceLeDiff, Nat.zero_le, nI_add, nI_mul, nI_cl, qin_eq, qofI, qlg_0, qlg_s, qls_i0, qls_r0, qls_l0, qls_1, qls_2, qkl_i, qkl_r, qkl_l, qkl_n, qIsI_i, qIsL_l, qIsR_r, qint_i, qil_i, qil_r, qil_l, qf4_0, qf4_1, qf4_2, qf4_3, qf2_0, qf2_1, qcs_n, qcs_i, qcs_r, qcs_l, qst_n, qst_c, qJ_0, qJ_st, qJ_go, qfl_I, qfl_Z, qfl_L, qfl_R, qrI_i, qrL_l, qrV_v, qRcv_0, qRcv_s, eq_self, true_and, and_true, true_or, or_true, false_and, and_false, false_or, or_false, ite_true, if_true, if_false, Bool.true_or, Bool.false_or, Bool.or_false, beq_self_eq_true, Bool.false_eq_true, bX12_laysBest_0, bX12_laysBest_16, bX12_laysBest_52, bX12_laysBest_63, bX12_laysBest_69, kX12_laysBest_0, kX12_laysBest_16, kX12_laysBest_52, kX12_laysBest_63, kX12_laysBest_69, qK_139, qR_139_0, qK_140, qR_139_1, qK_141, qR_139_5, qK_142, qR_139_6, qK_143, qR_139_7, qK_144, qR_139_8, qK_145, qR_139_9, qK_146, qR_139_21, qK_147, qR_139_25, qK_148, qR_139_30, qK_149, qR_139_31, qK_150, qR_139_33, qK_151, qR_139_34, qK_152, qR_139_35, qK_153, qR_139_36, qK_154, qR_139_39, qK_155, qR_139_40, qK_156, qR_139_41, qK_157]
  refine qBI.fn (m_boyOf σ (by omega)) (by decide) ?_
  rw [zMb0 h hb]
  have key := qdown (n := C 0 2 * C 0 3) (P := fun c => ∀ (σ1 : qSg) (l4 : Option qPV) (x : Nat), x < C 0 2 * C 0 3 → zM σ1 0 (zu C 1 b x) → zF (fun a j => zPb a j ∨ (a = 140 ∧ j = 8 + 5 * b)) σ σ1 → σ1.1 139 29 = nI (zbf C b c).2 → (0 < c → σ1.1 139 28 = nI (zbf C b c).1) →
    qV 318 9 (.inr (.inr fun σ' => σ'.1 139 28 = nI (zbest C b).1 ∧ σ'.1 139 29 = nI (zbest C b).2 ∧ zF zPb σ σ')) 16 [some (qr 139), some (qi (nI b)), some (qi (nI (C 1 b))), some (qi (nI c)), l4] [] σ1) (fun c hc ih => ?_)
  · refine key 0 (Nat.zero_le _) _ none (C 1 b) g.1 ?_ (zF.wi (by unfold zPb; omega)) ?_ (fun h0 => absurd h0 (by omega))
    · rw [zu_self]
      exact zM_wi h (by omega) hw
    · rw [qwi_1, if_pos (by simp)]
      rfl
  · intro σ1 l4 x hx a1 f1 b1 s1
    have w1 := zu1_W (b := b) hw hx
    have e00 : zu C 1 b x 0 0 = C 0 0 := zu_ne (by omega)
    have e02 : zu C 1 b x 0 2 = C 0 2 := zu_ne (by omega)
    have e03 : zu C 1 b x 0 3 = C 0 3 := zu_ne (by omega)
    have bd := zbf_bd hw hm b c hc
    have z0 : c = 0 → (zbf C b c).2 = 1000000 := fun e => by rw [e]; rfl
    have st : zbf C b (c + 1) = if zbrk (zu C 1 b c) < (zbf C b c).2 then (c, zbrk (zu C 1 b c)) else zbf C b c := rfl
    have hfin : c = C 0 2 * C 0 3 → zbest C b = zbf C b c := fun e => by rw [e]; rfl
    generalize zbf C b c = S at b1 s1 bd st hfin z0
    refine qV.go 30 [16] ok_318 ?_
    simp only [qW_nop, qW_iconst, qW_ldcw, qW_iloadn, qW_iload, qW_aloadn, qW_istoren, qW_istore, qW_iinc, qW_iclt, qW_icge, qW_goto, qW_getf, qW_iast, qW_vret, qW_cs1_0, qW_cv1_0, qW_cv3_0, qW_putf0, Nat.reduceAdd, Nat.reduceMul, Nat.reduceBEq, Nat.reduceEqDiff, Nat.reduceLT, Nat.reduceLeDiff, Nat.zero_le, nI_add, nI_mul, nI_cl, qin_eq, qofI, qlg_0, qlg_s, qls_i0, qls_r0, qls_l0, qls_1, qls_2, qkl_i, qkl_r, qkl_l, qkl_n, qIsI_i, qIsL_l, qIsR_r, qint_i, qil_i, qil_r, qil_l, qf4_0, qf4_1, qf4_2, qf4_3, qf2_0, qf2_1, qcs_n, qcs_i, qcs_r, qcs_l, qst_n, qst_c, qJ_0, qJ_st, qJ_go, qfl_I, qfl_Z, qfl_L, qfl_R, qrI_i, qrL_l, qrV_v, qRcv_0, qRcv_s, eq_self, true_and, and_true, true_or, or_true, false_and, and_false, false_or, or_false, ite_true, if_true, if_false, Bool.true_or, Bool.false_or, Bool.or_false, beq_self_eq_true, Bool.false_eq_true, bX12_laysBest_0, bX12_laysBest_16, bX12_laysBest_52, bX12_laysBest_63, bX12_laysBest_69, kX12_laysBest_0, kX12_laysBest_16, kX12_laysBest_52, kX12_laysBest_63, kX12_laysBest_69, qK_139, qR_139_0, qK_140, qR_139_1, qK_141, qR_139_5, qK_142, qR_139_6, qK_143, qR_139_7, qK_144, qR_139_8, qK_145, qR_139_9, qK_146, qR_139_21, qK_147, qR_139_25, qK_148, qR_139_30, qK_149, qR_139_31, qK_150, qR_139_33, qK_151, qR_139_34, qK_152, qR_139_35, qK_153, qR_139_36, qK_154, qR_139_39, qK_155, qR_139_40, qK_156, qR_139_41, qK_157]
    refine qBI.fn (m_cells a1 w1) (by decide) ?_
    rw [e02, e03]
    simp (disch := omega) only [nI_leI, nI_ltI, nI_eq, nI_cl, qin_eq, nI_add, nI_mul, qb_z, qb_t, qb_f, nI_ne0', Nat.reduceAdd, Bool.false_eq_true, if_false, if_true, true_and, and_true, Nat.reduceEqDiff, not_true_eq_false, not_false_eq_true, false_implies, true_implies, ite_true, ite_false]
    refine ⟨fun h1 => ?_, fun h1 => ?_⟩
    · refine qBI.fn (m_boyRow σ1 _) (by decide) ?_
      simp only [nI_add, nI_mul]
      simp (disch := omega) only [nI_leI, nI_ltI, nI_eq, nI_cl, qin_eq, nI_add, nI_mul, qb_z, qb_t, qb_f, nI_ne0', Nat.reduceAdd, Bool.false_eq_true, if_false, if_true, true_and, and_true, Nat.reduceEqDiff, not_true_eq_false, not_false_eq_true, false_implies, true_implies, ite_true, ite_false]
      rw [hfin (by omega)]
      refine ⟨?_, ?_, fun a j hp => ?_, f1.2⟩
      · rw [qwi_1, if_neg (by omega)]; exact s1 (by omega)
      · rw [qwi_1, if_neg (by omega)]; exact b1
      · rw [qwi_1]
        by_cases e : a = 140 ∧ j = 8 + 5 * b
        · rw [if_pos e, e.1, e.2, ← zMb0 h hb]
          rfl
        · rw [if_neg e]
          exact f1.1 a j (fun hh => hh.elim hp e)
    · have hc1 : c < C 0 2 * C 0 3 := by omega
      have w2 := zu1_W (b := b) hw hc1
      have hbk := zbrk_le w2 (by rw [zu_ne (by omega)]; exact hm)
      refine qBI.fn (m_boyRow σ1 _) (by decide) ?_
      simp only [nI_add, nI_mul]
      simp (disch := omega) only [nI_leI, nI_ltI, nI_eq, nI_cl, qin_eq, nI_add, nI_mul, qb_z, qb_t, qb_f, nI_ne0', Nat.reduceAdd, Bool.false_eq_true, if_false, if_true, true_and, and_true, Nat.reduceEqDiff, not_true_eq_false, not_false_eq_true, false_implies, true_implies, ite_true, ite_false]
      have a2 : zM (qwi σ1 140 (8 + 5 * b) (nI c)) 0 (zu C 1 b c) := by
        have := zM_wb a1 w1 (f := 0) (v := c) (by omega : b < zu C 1 b x 0 0) (by decide)
        rw [show 1 + 0 = 1 from rfl, zu_zu] at this
        exact this
      refine qBI.of (m_breakfastNow a2 w2 (by rw [zu_ne (by omega)]; exact hm)) (by decide) (fun r σ3 h3 => ?_)
      obtain ⟨rfl, f3⟩ := h3
      have a3 : zM σ3 0 (zu C 1 b c) := a2.keep w2 fun j hj => f3.1 _ _ (by unfold zPk; omega)
      have f4 : zF (fun a j => zPb a j ∨ (a = 140 ∧ j = 8 + 5 * b)) σ σ3 := (f1.tr (zF.wi (Or.inr ⟨rfl, rfl⟩))).tr (f3.wk fun a j hp => by unfold zPk at hp; unfold zPb; omega)
      have b3 : σ3.1 139 29 = nI S.2 := by
        rw [f3.1 _ _ (by unfold zPk; omega), qwi_1, if_neg (by omega)]; exact b1
      rw [b3]
      simp (disch := omega) only [nI_leI, nI_ltI, nI_eq, nI_cl, qin_eq, nI_add, nI_mul, qb_z, qb_t, qb_f, nI_ne0', Nat.reduceAdd, Bool.false_eq_true, if_false, if_true, true_and, and_true, Nat.reduceEqDiff, not_true_eq_false, not_false_eq_true, false_implies, true_implies, ite_true, ite_false]
      refine ⟨fun h4 => ?_, fun h4 => ?_⟩
      · rw [if_pos h4] at st
        have := ih hc1 (qwi (qwi σ3 139 29 (nI (zbrk (zu C 1 b c)))) 139 28 (nI c)) (some (qi (nI (zbrk (zu C 1 b c))))) c hc1 (zM_wi (zM_wi a3 (by omega) w2) (by omega) w2) ((f4.tr (zF.wi (by unfold zPb; omega))).tr (zF.wi (by unfold zPb; omega)))
        rw [st] at this
        refine this ?_ (fun _ => ?_)
        · rw [qwi_1, if_neg (by omega), qwi_1, if_pos (by simp)]
        · rw [qwi_1, if_pos (by simp)]
      · rw [if_neg (by omega)] at st
        have hpos : 0 < c := by
          rcases Nat.eq_zero_or_pos c with e | e
          · exfalso
            subst e
            have := z0 rfl
            omega
          · exact e
        have := ih hc1 σ3 (some (qi (nI (zbrk (zu C 1 b c))))) c hc1 a3 f4
        rw [st] at this
        refine this b3 (fun _ => ?_)
        rw [f3.1 _ _ (by unfold zPk; omega), qwi_1, if_neg (by omega)]
        exact s1 hpos
