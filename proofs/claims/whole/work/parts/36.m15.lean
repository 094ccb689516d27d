/-! the reference: behind ends; a life -/
theorem zML.k {σ : qSg} {W : Nat → Nat → Nat} {n : Nat} {s : zL} {i v : Nat} (h : zML σ W n s) (hi : 7 ≤ i) : zML σ W n (zsR s i v) := by
  obtain ⟨h1, h2, h4, h5, h6, h7⟩ := h
  refine ⟨h1, h2, h4, fun j hj => ?_, ?_, ?_⟩
  · rw [zsR_n (by omega)]; exact h5 j hj
  · rw [zsR_n (by omega)]; exact h6
  · rw [zsR_n (by omega)]; exact h7
theorem zML.l {σ : qSg} {W : Nat → Nat → Nat} {n : Nat} {s : zL} {o v : Nat} (h : zML σ W n s) (hw : zW s.1) : zML (qwi σ 155 o (nI (v - 1))) W n (zsL s o v) := by
  obtain ⟨h1, ⟨h2, h3⟩, h4, h5, h6, h7⟩ := h
  refine ⟨zM_wi h1 (by omega) hw, ⟨?_, fun k hk j hj => ?_⟩, fun j hj => ?_, fun j hj => ?_, ?_, ?_⟩
  · rw [qwi_1, if_neg (by omega)]; exact h2
  · rw [qwi_1, if_neg (by omega)]; exact h3 k hk j hj
  · rw [qwi_1, zsL_L]
    by_cases e : j = o
    · subst e
      rw [if_pos ⟨rfl, rfl⟩, zn_eq]
    · rw [if_neg (by omega), zn_ne e]
      exact h4 j hj
  · rw [qwi_1, if_neg (by omega), zsL_R]; exact h5 j hj
  · rw [qwi_1, if_neg (by omega), zsL_R]; exact h6
  · rw [qwi_1, if_neg (by omega), zsL_R]; exact h7
theorem zML.l0 {σ : qSg} {W : Nat → Nat → Nat} {n : Nat} {s : zL} {o : Nat} (h : zML σ W n s) (hw : zW s.1) (ho : o < 60) : zML (qwi σ 155 o (nI (s.2.1 o - 1))) W n s := by
  have h2 := h.l (o := o) (v := s.2.1 o) hw
  have e : zsL s o (s.2.1 o) = s := by
    refine Prod.ext rfl (Prod.ext ?_ rfl)
    funext j
    rw [zsL_L]
    by_cases e : j = o
    · subst e
      rw [zn_eq]
    · rw [zn_ne e]
  rwa [e] at h2
theorem zPl_l {σ : qSg} {i : Nat} {x : Int32} : zF zPl σ (qwi σ 155 i x) := zF.wi (Or.inr (Or.inr (Or.inr rfl)))
def zBe (W : Nat → Nat → Nat) (n : Nat) (σ : qSg) (s : zL) (r : Int32) (σ' : qSg) : Prop :=
  ∃ s', r = nI (s'.2.2 7) ∧ zML σ' W n s' ∧ zLW W n s' ∧ s'.2.2 8 ≠ 1 ∧ zfin W n s' = zfin W n s ∧ zphi W n s' ≤ zphi W n s ∧ (n ≤ s'.2.2 7 ∨ W (s'.2.2 7) 0 ≠ 17) ∧ zF zPl σ σ'
set_option maxRecDepth 20000 in
theorem m_behindEnds {W : Nat → Nat → Nat} {n : Nat} {σ : qSg} {s : zL} (h : zML σ W n s) (hs : zLW W n s) (h8 : s.2.2 8 ≠ 1) :
    qCI 1 360 [qr 139, qi (nI (s.2.2 7))] σ (zBe W n σ s) := by
  refine qCI.of [some (qr 139), some (qi (nI (s.2.2 7))), none, none, none] ok_360 (Nat.le_of_ble_eq_true rfl) rfl ?_
  refine qV.go 30 [2] ok_360 ?_
  simp only [qW_nop, qW_iconst, qW_bipush, qW_iloadn, qW_iload, qW_aloadn, qW_istoren, qW_istore, qW_iadd, qW_isub, qW_imul, qW_dup2, qW_ifeq, qW_icne, qW_icge, qW_ifle, qW_goto, qW_getf, qW_iald, qW_iast, qW_iret0, Nat.reduceAdd, Nat.reduceMul, Nat.reduceBEq, Nat.reduceEqDiff, Nat.reduceLT, Nat.reduceLeDiff, Nat.zero_le, nI_add, nI_mul, nI_cl, qin_eq, qofI, qlg_0, qlg_s, qls_i0, qls_r0, qls_l0, qls_1, qls_2, qkl_i, qkl_r, qkl_l, qkl_n, qIsI_i, qIsL_l, qIsR_r, qint_i, qil_i, qil_r, qil_l, qf4_0, qf4_1, qf4_2, qf4_3, qf2_0, qf2_1, qcs_n, qcs_i, qcs_r, qcs_l, qst_n, qst_c, qJ_0, qJ_st, qJ_go, qfl_I, qfl_Z, qfl_L, qfl_R, qrI_i, qrL_l, qrV_v, qRcv_0, qRcv_s, eq_self, true_and, and_true, true_or, or_true, false_and, and_false, false_or, or_false, ite_true, if_true, if_false, Bool.true_or, Bool.false_or, Bool.or_false, beq_self_eq_true, Bool.false_eq_true, bX12_behindEnds_0, bX12_behindEnds_2, bX12_behindEnds_75, bX12_behindEnds_76, bX12_behindEnds_94, bX12_behindEnds_95, bX12_behindEnds_108, bX12_behindEnds_111, bX12_behindEnds_115, kX12_behindEnds_0, kX12_behindEnds_2, kX12_behindEnds_75, kX12_behindEnds_76, kX12_behindEnds_94, kX12_behindEnds_95, kX12_behindEnds_108, kX12_behindEnds_111, kX12_behindEnds_115, qK_139, qR_139_0, qK_140, qR_139_1, qK_141, qR_139_5, qK_142, qR_139_6, qK_143, qR_139_7, qK_144, qR_139_8, qK_145, qR_139_9, qK_146, qR_139_21, qK_147, qR_139_25, qK_148, qR_139_30, qK_149, qR_139_31, qK_150, qR_139_33, qK_151, qR_139_34, qK_152, qR_139_35, qK_153, qR_139_36, qK_154, qR_139_39, qK_155, qR_139_40, qK_156, qR_139_41, qK_157]
  have key : ∀ m (s1 : zL) (σ1 : qSg) (l3 l4 : Option qPV), zphi W n s1 ≤ m → zML σ1 W n s1 → zLW W n s1 → s1.2.2 8 ≠ 1 → zfin W n s1 = zfin W n s → zphi W n s1 ≤ zphi W n s → zF zPl σ σ1 → qV 360 1 (.inl (zBe W n σ s)) 2 [some (qr 139), some (qi (nI (s.2.2 7))), some (qi (nI (s1.2.2 7))), l3, l4] [] σ1 := by
    intro m
    induction m with
    | zero =>
      intro s1 σ1 l3 l4 hm h1 hs1 h81
      have : zphi W n s1 = (300 - s1.2.2 5) * 161 + zpsi W n s1 + 1 := if_neg h81
      omega
    | succ m ih =>
      intro s1 σ1 l3 l4 hm h1 hs1 h81 e1 e2 f1
      have hn := hs1.2.1.1
      have h7 := hs1.2.2.2.2.2.2.2.2.2.2.2.1
      have hlt := zphi_lt hs1 h81
      have hnx := zLW_move hs1
      have hfi := zfin_s hs1 h81
      refine qV.go 30 [2] ok_360 ?_
      simp only [qW_nop, qW_iconst, qW_bipush, qW_iloadn, qW_iload, qW_aloadn, qW_istoren, qW_istore, qW_iadd, qW_isub, qW_imul, qW_dup2, qW_ifeq, qW_icne, qW_icge, qW_ifle, qW_goto, qW_getf, qW_iald, qW_iast, qW_iret0, Nat.reduceAdd, Nat.reduceMul, Nat.reduceBEq, Nat.reduceEqDiff, Nat.reduceLT, Nat.reduceLeDiff, Nat.zero_le, nI_add, nI_mul, nI_cl, qin_eq, qofI, qlg_0, qlg_s, qls_i0, qls_r0, qls_l0, qls_1, qls_2, qkl_i, qkl_r, qkl_l, qkl_n, qIsI_i, qIsL_l, qIsR_r, qint_i, qil_i, qil_r, qil_l, qf4_0, qf4_1, qf4_2, qf4_3, qf2_0, qf2_1, qcs_n, qcs_i, qcs_r, qcs_l, qst_n, qst_c, qJ_0, qJ_st, qJ_go, qfl_I, qfl_Z, qfl_L, qfl_R, qrI_i, qrL_l, qrV_v, qRcv_0, qRcv_s, eq_self, true_and, and_true, true_or, or_true, false_and, and_false, false_or, or_false, ite_true, if_true, if_false, Bool.true_or, Bool.false_or, Bool.or_false, beq_self_eq_true, Bool.false_eq_true, bX12_behindEnds_0, bX12_behindEnds_2, bX12_behindEnds_75, bX12_behindEnds_76, bX12_behindEnds_94, bX12_behindEnds_95, bX12_behindEnds_108, bX12_behindEnds_111, bX12_behindEnds_115, kX12_behindEnds_0, kX12_behindEnds_2, kX12_behindEnds_75, kX12_behindEnds_76, kX12_behindEnds_94, kX12_behindEnds_95, kX12_behindEnds_108, kX12_behindEnds_111, kX12_behindEnds_115, qK_139, qR_139_0, qK_140, qR_139_1, qK_141, qR_139_5, qK_142, qR_139_6, qK_143, qR_139_7, qK_144, qR_139_8, qK_145, qR_139_9, qK_146, qR_139_21, qK_147, qR_139_25, qK_148, qR_139_30, qK_149, qR_139_31, qK_150, qR_139_33, qK_151, qR_139_34, qK_152, qR_139_35, qK_153, qR_139_36, qK_154, qR_139_39, qK_155, qR_139_40, qK_156, qR_139_41, qK_157]
      rw [h1.2.1.1]
      simp (disch := omega) only [nI_leI, nI_ltI, nI_eq, nI_cl, qin_eq, nI_add, nI_mul, qb_z, qb_t, qb_f, nI_ne0', Nat.reduceAdd, Bool.false_eq_true, if_false, if_true, true_and, and_true, Nat.reduceEqDiff, not_true_eq_false, not_false_eq_true, false_implies, true_implies, ite_true, ite_false]
      refine ⟨fun hk => ⟨s1, rfl, h1, hs1, h81, e1, e2, Or.inl hk, f1⟩, fun hk => ?_⟩
      have hk' : s1.2.2 7 < n := by omega
      obtain ⟨-, -, -, -, -, -, -, -, kb, kc⟩ := hs1.2.1.2.1 _ hk'
      have hr0 : σ1.1 140 (88 + 6 * s1.2.2 7) = nI (W (s1.2.2 7) 0) := h1.2.1.2 _ hk' 0 (by decide)
      have hr4 : σ1.1 140 (88 + 6 * s1.2.2 7 + 4) = nI (W (s1.2.2 7) 4) := h1.2.1.2 _ hk' 4 (by decide)
      rw [hr0, hr4]
      obtain ⟨ka, -⟩ := hs1.2.1.2.1 _ hk'
      by_cases h17 : W (s1.2.2 7) 0 = 17
      · obtain ⟨k1, k2, k3⟩ := kc h17
        have hro : σ1.1 140 (88 + 6 * W (s1.2.2 7) 4) = nI (W (W (s1.2.2 7) 4) 0) := h1.2.1.2 _ (by omega) 0 (by decide)
        have hlo : σ1.1 155 (W (s1.2.2 7) 4) = nI (s1.2.1 (W (s1.2.2 7) 4) - 1) := h1.2.2.1 _ (by omega)
        have hLo := hs1.2.2.2.2.2.2.2.2.2.2.1 (W (s1.2.2 7) 4)
        obtain ⟨kd, -⟩ := hs1.2.1.2.1 (W (s1.2.2 7) 4) (by omega)
        have emv : zmove1 W n s1 = zendm W s1 := by
          unfold zmove1
          rw [if_neg hk, if_pos h17]
        rw [emv] at hlt hnx hfi
        simp only [nI_c (show W (s1.2.2 7) 4 < 2147483648 by omega), nI_mul, nI_add, nI_c (show 88 + 6 * W (s1.2.2 7) 4 < 2147483648 by omega)]
        rw [hro, hlo]
        simp only [h17]
        simp (disch := omega) only [nI_leI, nI_ltI, nI_eq, nI_cl, qin_eq, nI_add, nI_mul, qb_z, qb_t, qb_f, nI_ne0', Nat.reduceAdd, Bool.false_eq_true, if_false, if_true, true_and, and_true, Nat.reduceEqDiff, not_true_eq_false, not_false_eq_true, false_implies, true_implies, ite_true, ite_false]
        have h82 : (zendm W s1).2.2 8 ≠ 1 := by
          rw [zendm_r _ _ (by decide)]
          exact h81
        have fin : ∀ σ2 k' (l3 l4 : Option qPV), (zendm W s1).2.2 7 = k' → zML σ2 W n (zendm W s1) → zF zPl σ1 σ2 → qV 360 1 (.inl (zBe W n σ s)) 2 [some (qr 139), some (qi (nI (s.2.2 7))), some (qi (nI k')), l3, l4] [] σ2 := by
          intro σ2 k' l3 l4 e7 hM f2
          have := ih (zendm W s1) σ2 l3 l4 (by omega) hM hnx h82 (by rw [← hfi]; exact e1) (by omega) (f1.tr f2)
          rw [e7] at this
          exact this
        have hw1 := hs1.1
        have z0 : ∀ x, nI x - nI 0 = nI x := fun x => by rw [nI_sub (Nat.zero_le _)]; rfl
        rw [z0]
        refine ⟨fun h16 => ?_, fun h16 => ⟨fun hl => ?_, fun hl => ?_⟩⟩
        · have e7 := zendm_7 W s1
          rw [if_neg (fun h => h16 h.1)] at e7
          have eM : zendm W s1 = zsR s1 7 (s1.2.2 7 + 1) := if_neg h16
          refine fin _ _ _ _ e7 ?_ zPl_l
          rw [eM]
          exact (h1.l0 hw1 (by omega)).k (Nat.le_refl _)
        · rw [qle0, nI_t (by omega)] at hl
          have e7 := zendm_7 W s1
          rw [if_neg (fun h => by omega)] at e7
          have eM : zendm W s1 = zsR (zsL s1 (W (s1.2.2 7) 4) (s1.2.1 (W (s1.2.2 7) 4) - 1)) 7 (if 2 ≤ s1.2.1 (W (s1.2.2 7) 4) then W (s1.2.2 7) 4 + 1 else s1.2.2 7 + 1) := if_pos h16
          refine fin _ _ _ _ e7 ?_ zPl_l
          rw [eM]
          have h9 := h1.l (o := W (s1.2.2 7) 4) (v := s1.2.1 (W (s1.2.2 7) 4) - 1) hw1
          rw [show s1.2.1 (W (s1.2.2 7) 4) - 1 - 1 = s1.2.1 (W (s1.2.2 7) 4) - 1 by omega] at h9
          exact h9.k (Nat.le_refl _)
        · rw [qle0, nI_t (by omega)] at hl
          have e7 := zendm_7 W s1
          rw [if_pos ⟨h16, by omega⟩] at e7
          have eM : zendm W s1 = zsR (zsL s1 (W (s1.2.2 7) 4) (s1.2.1 (W (s1.2.2 7) 4) - 1)) 7 (if 2 ≤ s1.2.1 (W (s1.2.2 7) 4) then W (s1.2.2 7) 4 + 1 else s1.2.2 7 + 1) := if_pos h16
          rw [nI_sub (by omega)]
          refine fin _ _ _ _ e7 ?_ zPl_l
          rw [eM]
          exact (h1.l (o := W (s1.2.2 7) 4) (v := s1.2.1 (W (s1.2.2 7) 4) - 1) hw1).k (Nat.le_refl _)
      · refine ⟨fun _ => ⟨s1, rfl, h1, hs1, h81, e1, e2, Or.inr h17, f1⟩, fun hx => ?_⟩
        exact absurd (by rwa [nI_eq (by omega) (by omega)] at hx) h17
  exact key _ s σ none none (Nat.le_refl _) h hs h8 rfl (Nat.le_refl _) zF.rf
