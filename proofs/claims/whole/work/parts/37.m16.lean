/-! the reference: lives -/
theorem zML.s {σ : qSg} {W : Nat → Nat → Nat} {n : Nat} {s : zL} {v : Nat} (h : zML σ W n s) (hw : zW s.1) : zML (qwi σ 139 38 (nI v)) W n (zsR s 5 v) := by
  obtain ⟨h1, ⟨h2, h3⟩, h4, h5, h6, h7⟩ := h
  refine ⟨zM_wi h1 (by omega) hw, ⟨?_, fun k hk j hj => ?_⟩, fun j hj => ?_, fun j hj => ?_, ?_, ?_⟩
  · rw [qwi_1, if_neg (by omega)]; exact h2
  · rw [qwi_1, if_neg (by omega)]; exact h3 k hk j hj
  · rw [qwi_1, if_neg (by omega)]; exact h4 j hj
  · rw [qwi_1, if_neg (by omega), zsR_n (by omega)]; exact h5 j hj
  · rw [qwi_1, if_pos ⟨rfl, rfl⟩, zsR_e]
  · rw [qwi_1, if_neg (by omega), zsR_n (by omega)]; exact h7
theorem zPl_s {σ : qSg} {x : Int32} : zF zPl σ (qwi σ 139 38 x) := zF.wi (Or.inr (Or.inl ⟨rfl, Or.inr (Or.inr rfl)⟩))
theorem zsR_id (s : zL) (i : Nat) : zsR s i (s.2.2 i) = s := by
  refine Prod.ext rfl (Prod.ext rfl ?_)
  funext j
  by_cases e : j = i
  · subst e
    rw [zsR_e]
  · rw [zsR_n e]
set_option maxRecDepth 20000 in
theorem lives_go {W : Nat → Nat → Nat} {n : Nat} {σ : qSg} {s : zL} (x1 : Int32) :
    ∀ m (s1 : zL) (σ1 : qSg) (l3 : Option qPV), zphi W n s1 ≤ m → zML σ1 W n s1 → zLW W n s1 → s1.2.2 8 ≠ 1 → (n ≤ s1.2.2 7 ∨ W (s1.2.2 7) 0 ≠ 17) → zfin W n s1 = zfin W n s → zF zPl σ σ1 →
    qV 361 10 (.inr (.inr fun σ' => zML σ' W n (zfin W n s) ∧ zF zPl σ σ')) 32 [some (qr 139), some (qi x1), some (qi (nI (s1.2.2 7))), l3] [] σ1 := by
  intro m
  induction m with
  | zero =>
    intro s1 σ1 l3 hm h1 hs1 h81
    have : zphi W n s1 = (300 - s1.2.2 5) * 161 + zpsi W n s1 + 1 := if_neg h81
    omega
  | succ m ih =>
    intro s1 σ1 l3 hm h1 hs1 h81 hnk e1 f1
    have hn := hs1.2.1.1
    have hw1 := hs1.1
    have h7 := hs1.2.2.2.2.2.2.2.2.2.2.2.1
    have hst := hs1.2.2.2.2.1
    have hlt := zphi_lt hs1 h81
    have hnx := zLW_move hs1
    have hfi := zfin_s hs1 h81
    refine qV.go 30 [32, 91] ok_361 ?_
    simp only [qW_nop, qW_iconst, qW_bipush, qW_sipush, qW_iloadn, qW_aloadn, qW_istoren, qW_iinc, qW_iadd, qW_isub, qW_imul, qW_dup, qW_dup2, qW_ifeq, qW_ifne, qW_icne, qW_iclt, qW_icge, qW_goto, qW_getf, qW_iald, qW_iast, qW_vret, qW_cv2_0, qW_putf0, Nat.reduceAdd, Nat.reduceMul, Nat.reduceBEq, Nat.reduceEqDiff, Nat.reduceLT, Nat.reduceLeDiff, Nat.zero_le, nI_add, nI_mul, nI_cl, qin_eq, qofI, qlg_0, qlg_s, qls_i0, qls_r0, qls_l0, qls_1, qls_2, qkl_i, qkl_r, qkl_l, qkl_n, qIsI_i, qIsL_l, qIsR_r, qint_i, qil_i, qil_r, qil_l, qf4_0, qf4_1, qf4_2, qf4_3, qf2_0, qf2_1, qcs_n, qcs_i, qcs_r, qcs_l, qst_n, qst_c, qJ_0, qJ_st, qJ_go, qfl_I, qfl_Z, qfl_L, qfl_R, qrI_i, qrL_l, qrV_v, qRcv_0, qRcv_s, eq_self, true_and, and_true, true_or, or_true, false_and, and_false, false_or, or_false, ite_true, if_true, if_false, Bool.true_or, Bool.false_or, Bool.or_false, beq_self_eq_true, Bool.false_eq_true, bX12_lives_0, bX12_lives_12, bX12_lives_30, bX12_lives_32, bX12_lives_61, bX12_lives_91, bX12_lives_110, bX12_lives_111, bX12_lives_140, bX12_lives_174, bX12_lives_177, bX12_lives_184, kX12_lives_0, kX12_lives_12, kX12_lives_30, kX12_lives_32, kX12_lives_61, kX12_lives_91, kX12_lives_110, kX12_lives_111, kX12_lives_140, kX12_lives_174, kX12_lives_177, kX12_lives_184, qK_139, qR_139_0, qK_140, qR_139_1, qK_141, qR_139_5, qK_142, qR_139_6, qK_143, qR_139_7, qK_144, qR_139_8, qK_145, qR_139_9, qK_146, qR_139_21, qK_147, qR_139_25, qK_148, qR_139_30, qK_149, qR_139_31, qK_150, qR_139_33, qK_151, qR_139_34, qK_152, qR_139_35, qK_153, qR_139_36, qK_154, qR_139_39, qK_155, qR_139_40, qK_156, qR_139_41, qK_157]
    rw [h1.2.1.1, h1.2.2.2.2.1]
    simp (disch := omega) only [nI_leI, nI_ltI, nI_eq, nI_cl, qin_eq, nI_add, nI_mul, qb_z, qb_t, qb_f, nI_ne0', Nat.reduceAdd, Bool.false_eq_true, if_false, if_true, true_and, and_true, Nat.reduceEqDiff, not_true_eq_false, not_false_eq_true, false_implies, true_implies, ite_true, ite_false]
    refine ⟨fun hk => ?_, fun hk => ?_⟩
    · have e : zmove1 W n s1 = zsR s1 8 1 := if_pos hk
      rw [← e1, hfi, e, zfin_h zsR_e]
      exact ⟨h1.k (by decide), f1⟩
    have hk' : s1.2.2 7 < n := by omega
    have h17 : W (s1.2.2 7) 0 ≠ 17 := by omega
    have hr0 : σ1.1 140 (88 + 6 * s1.2.2 7) = nI (W (s1.2.2 7) 0) := h1.2.1.2 _ hk' 0 (by decide)
    obtain ⟨ka, -⟩ := hs1.2.1.2.1 _ hk'
    refine ⟨fun h3 => ?_, fun h3 => ?_⟩
    · have b1 := h1.s (v := s1.2.2 5 + 1) hw1
      have hs2 := zL5 hs1 (by omega)
      have hr0' : (qwi σ1 139 38 (nI (s1.2.2 5 + 1))).1 140 (88 + 6 * s1.2.2 7) = nI (W (s1.2.2 7) 0) := b1.2.1.2 _ hk' 0 (by decide)
      have hr1' : (qwi σ1 139 38 (nI (s1.2.2 5 + 1))).1 140 (88 + 6 * s1.2.2 7 + 1) = nI (W (s1.2.2 7) 1) := b1.2.1.2 _ hk' 1 (by decide)
      have hr4' : (qwi σ1 139 38 (nI (s1.2.2 5 + 1))).1 140 (88 + 6 * s1.2.2 7 + 4) = nI (W (s1.2.2 7) 4) := b1.2.1.2 _ hk' 4 (by decide)
      rw [hr0']
      simp (disch := omega) only [nI_leI, nI_ltI, nI_eq, nI_cl, qin_eq, nI_add, nI_mul, qb_z, qb_t, qb_f, nI_ne0', Nat.reduceAdd, Bool.false_eq_true, if_false, if_true, true_and, and_true, Nat.reduceEqDiff, not_true_eq_false, not_false_eq_true, false_implies, true_implies, ite_true, ite_false]
      have f2 : zF zPl σ (qwi σ1 139 38 (nI (s1.2.2 5 + 1))) := f1.tr zPl_s
      refine ⟨fun h4 => ?_, fun h4 => ?_⟩
      · have e : zmove1 W n s1 = zbeh W (s1.2.2 7) (zdo W (s1.2.2 7) (zsR s1 5 (s1.2.2 5 + 1))) := by
          unfold zmove1
          rw [if_neg hk, if_neg h17, if_neg h3, if_neg h4]
        generalize qwi σ1 139 38 (nI (s1.2.2 5 + 1)) = σ2 at b1 hr0' hr1' hr4' f2 ⊢
        have b0 : σ2.1 156 0 = nI (s1.2.2 0) := by
          have := b1.2.2.2.1 0 (by decide)
          rwa [zsR_n (by decide)] at this
        refine qV.go 30 [32, 140, 177] ok_361 ?_
        simp only [qW_nop, qW_iconst, qW_bipush, qW_sipush, qW_iloadn, qW_aloadn, qW_istoren, qW_iinc, qW_iadd, qW_isub, qW_imul, qW_dup, qW_dup2, qW_ifeq, qW_ifne, qW_icne, qW_iclt, qW_icge, qW_goto, qW_getf, qW_iald, qW_iast, qW_vret, qW_cv2_0, qW_putf0, Nat.reduceAdd, Nat.reduceMul, Nat.reduceBEq, Nat.reduceEqDiff, Nat.reduceLT, Nat.reduceLeDiff, Nat.zero_le, nI_add, nI_mul, nI_cl, qin_eq, qofI, qlg_0, qlg_s, qls_i0, qls_r0, qls_l0, qls_1, qls_2, qkl_i, qkl_r, qkl_l, qkl_n, qIsI_i, qIsL_l, qIsR_r, qint_i, qil_i, qil_r, qil_l, qf4_0, qf4_1, qf4_2, qf4_3, qf2_0, qf2_1, qcs_n, qcs_i, qcs_r, qcs_l, qst_n, qst_c, qJ_0, qJ_st, qJ_go, qfl_I, qfl_Z, qfl_L, qfl_R, qrI_i, qrL_l, qrV_v, qRcv_0, qRcv_s, eq_self, true_and, and_true, true_or, or_true, false_and, and_false, false_or, or_false, ite_true, if_true, if_false, Bool.true_or, Bool.false_or, Bool.or_false, beq_self_eq_true, Bool.false_eq_true, bX12_lives_0, bX12_lives_12, bX12_lives_30, bX12_lives_32, bX12_lives_61, bX12_lives_91, bX12_lives_110, bX12_lives_111, bX12_lives_140, bX12_lives_174, bX12_lives_177, bX12_lives_184, kX12_lives_0, kX12_lives_12, kX12_lives_30, kX12_lives_32, kX12_lives_61, kX12_lives_91, kX12_lives_110, kX12_lives_111, kX12_lives_140, kX12_lives_174, kX12_lives_177, kX12_lives_184, qK_139, qR_139_0, qK_140, qR_139_1, qK_141, qR_139_5, qK_142, qR_139_6, qK_143, qR_139_7, qK_144, qR_139_8, qK_145, qR_139_9, qK_146, qR_139_21, qK_147, qR_139_25, qK_148, qR_139_30, qK_149, qR_139_31, qK_150, qR_139_33, qK_151, qR_139_34, qK_152, qR_139_35, qK_153, qR_139_36, qK_154, qR_139_39, qK_155, qR_139_40, qK_156, qR_139_41, qK_157]
        rw [b0]
        refine qBI.of (m_does b1 hs2 hk') (by decide) (fun r σ3 h5 => ?_)
        obtain ⟨rfl, b3, f3⟩ := h5
        have hd0 := zdo_r W (s1.2.2 7) (zsR s1 5 (s1.2.2 5 + 1)) (i := 0) (by decide) (by decide) (by decide) (by decide)
        rw [zsR_n (by decide)] at hd0
        have hd15 : 1500 ≤ W (s1.2.2 7) 0 → zdo W (s1.2.2 7) (zsR s1 5 (s1.2.2 5 + 1)) = (true, zsR s1 5 (s1.2.2 5 + 1)) := by
          intro h15
          unfold zdo
          rw [if_neg (by omega), if_neg (by omega), if_neg (by omega), if_neg (by omega), if_neg (by omega), if_neg (by omega)]
        have hwr : zW (zdo W (s1.2.2 7) (zsR s1 5 (s1.2.2 5 + 1))).2.1 := by
          have := hnx.1
          rw [e, zbeh_C] at this
          exact this
        have h82 : (zmove1 W n s1).2.2 8 ≠ 1 := by
          rw [e, zbeh_r _ _ _ (by decide) (by decide), zdo_r _ _ _ (by decide) (by decide) (by decide) (by decide), zsR_n (by decide)]
          exact h81
        have goB : ∀ σ4 k' (l3 : Option qPV), (zmove1 W n s1).2.2 7 = k' → zML σ4 W n (zmove1 W n s1) → zF zPl σ σ4 → qBI 10 360 [qr 139, qi (nI k')] σ4 (fun r σ5 => qV 361 10 (.inr (.inr fun σ' => zML σ' W n (zfin W n s) ∧ zF zPl σ σ')) 32 [some (qr 139), some (qi x1), some (qi r), l3] [] σ5) := by
          intro σ4 k' l3 e7 hM f4
          subst e7
          refine qBI.of (m_behindEnds hM hnx h82) (by decide) (fun r σ5 h6 => ?_)
          obtain ⟨s', rfl, c1, c2, c3, c4, c5, c6, c7⟩ := h6
          exact ih s' σ5 l3 (by omega) c1 c2 c3 c6 (by rw [c4, ← hfi]; exact e1) (f4.tr c7)
        rw [e] at goB
        generalize hr : zdo W (s1.2.2 7) (zsR s1 5 (s1.2.2 5 + 1)) = r at b3 hd0 hd15 hwr goB ⊢
        have go140 : ∀ σ4, zML σ4 W n (zsR (if W (s1.2.2 7) 0 = 16 then zsL r.2 (s1.2.2 7) (W (s1.2.2 7) 1) else r.2) 0 (r.2.2.2 0 + (if r.1 then 0 else 1))) → zF zPl σ σ4 → qV 361 10 (.inr (.inr fun σ' => zML σ' W n (zfin W n s) ∧ zF zPl σ σ')) 140 [some (qr 139), some (qi x1), some (qi (nI (s1.2.2 7))), some (qi (nI (88 + 6 * s1.2.2 7)))] [] σ4 := by
          intro σ4 c1 f4
          have g0 : σ4.1 140 (88 + 6 * s1.2.2 7) = nI (W (s1.2.2 7) 0) := c1.2.1.2 _ hk' 0 (by decide)
          have g4 : σ4.1 140 (88 + 6 * s1.2.2 7 + 4) = nI (W (s1.2.2 7) 4) := c1.2.1.2 _ hk' 4 (by decide)
          have c2 : zML σ4 W n (zbeh W (s1.2.2 7) r) := c1.k (i := 7) (by decide)
          have e7 : (zbeh W (s1.2.2 7) r).2.2 7 = if 1500 ≤ W (s1.2.2 7) 0 ∧ zholds W (s1.2.2 7) r.2.1 = false then W (s1.2.2 7) 4 + 1 else s1.2.2 7 + 1 := zsR_e
          refine qV.go 30 [32] ok_361 ?_
          simp only [qW_nop, qW_iconst, qW_bipush, qW_sipush, qW_iloadn, qW_aloadn, qW_istoren, qW_iinc, qW_iadd, qW_isub, qW_imul, qW_dup, qW_dup2, qW_ifeq, qW_ifne, qW_icne, qW_iclt, qW_icge, qW_goto, qW_getf, qW_iald, qW_iast, qW_vret, qW_cv2_0, qW_putf0, Nat.reduceAdd, Nat.reduceMul, Nat.reduceBEq, Nat.reduceEqDiff, Nat.reduceLT, Nat.reduceLeDiff, Nat.zero_le, nI_add, nI_mul, nI_cl, qin_eq, qofI, qlg_0, qlg_s, qls_i0, qls_r0, qls_l0, qls_1, qls_2, qkl_i, qkl_r, qkl_l, qkl_n, qIsI_i, qIsL_l, qIsR_r, qint_i, qil_i, qil_r, qil_l, qf4_0, qf4_1, qf4_2, qf4_3, qf2_0, qf2_1, qcs_n, qcs_i, qcs_r, qcs_l, qst_n, qst_c, qJ_0, qJ_st, qJ_go, qfl_I, qfl_Z, qfl_L, qfl_R, qrI_i, qrL_l, qrV_v, qRcv_0, qRcv_s, eq_self, true_and, and_true, true_or, or_true, false_and, and_false, false_or, or_false, ite_true, if_true, if_false, Bool.true_or, Bool.false_or, Bool.or_false, beq_self_eq_true, Bool.false_eq_true, bX12_lives_0, bX12_lives_12, bX12_lives_30, bX12_lives_32, bX12_lives_61, bX12_lives_91, bX12_lives_110, bX12_lives_111, bX12_lives_140, bX12_lives_174, bX12_lives_177, bX12_lives_184, kX12_lives_0, kX12_lives_12, kX12_lives_30, kX12_lives_32, kX12_lives_61, kX12_lives_91, kX12_lives_110, kX12_lives_111, kX12_lives_140, kX12_lives_174, kX12_lives_177, kX12_lives_184, qK_139, qR_139_0, qK_140, qR_139_1, qK_141, qR_139_5, qK_142, qR_139_6, qK_143, qR_139_7, qK_144, qR_139_8, qK_145, qR_139_9, qK_146, qR_139_21, qK_147, qR_139_25, qK_148, qR_139_30, qK_149, qR_139_31, qK_150, qR_139_33, qK_151, qR_139_34, qK_152, qR_139_35, qK_153, qR_139_36, qK_154, qR_139_39, qK_155, qR_139_40, qK_156, qR_139_41, qK_157]
          simp only [nI_c (show 88 + 6 * s1.2.2 7 < 2147483648 by omega), nI_c (show 88 + 6 * s1.2.2 7 + 4 < 2147483648 by omega)]
          rw [g0]
          simp (disch := omega) only [nI_leI, nI_ltI, nI_eq, nI_cl, qin_eq, nI_add, nI_mul, qb_z, qb_t, qb_f, nI_ne0', Nat.reduceAdd, Bool.false_eq_true, if_false, if_true, true_and, and_true, Nat.reduceEqDiff, not_true_eq_false, not_false_eq_true, false_implies, true_implies, ite_true, ite_false]
          refine ⟨fun h15 => ?_, fun h15 => ?_⟩
          · rw [if_neg (by omega)] at e7
            exact goB σ4 _ _ e7 c2 f4
          · have h15' : 1500 ≤ W (s1.2.2 7) 0 := by omega
            have er := hd15 h15'
            have c3 : zML σ4 W n (zsR s1 5 (s1.2.2 5 + 1)) := by
              have := c1
              rw [if_neg (by omega), er] at this
              have e9 : (zsR s1 5 (s1.2.2 5 + 1)).2.2 0 + (if true = true then 0 else 1) = (zsR s1 5 (s1.2.2 5 + 1)).2.2 0 := by rw [if_pos rfl, Nat.add_zero]
              have e10 : zsR (zsR s1 5 (s1.2.2 5 + 1)) 0 ((zsR s1 5 (s1.2.2 5 + 1)).2.2 0 + (if true = true then 0 else 1)) = zsR s1 5 (s1.2.2 5 + 1) := by rw [e9, zsR_id]
              exact e10 ▸ this
            refine qBI.fn (m_holds c3 hs2 hk' h15') (by decide) ?_
            rw [er] at e7
            rw [g4]
            have e7' : (zbeh W (s1.2.2 7) (true, zsR s1 5 (s1.2.2 5 + 1))).2.2 7 = if 1500 ≤ W (s1.2.2 7) 0 ∧ zholds W (s1.2.2 7) s1.1 = false then W (s1.2.2 7) 4 + 1 else s1.2.2 7 + 1 := e7
            have ez : zholds W (s1.2.2 7) (zsR s1 5 (s1.2.2 5 + 1)).1 = zholds W (s1.2.2 7) s1.1 := rfl
            rw [ez]
            rw [← er] at e7'
            cases eh : zholds W (s1.2.2 7) s1.1 with
            | true =>
              refine ⟨fun _ => ?_, fun h9 => absurd h9 (by decide)⟩
              rw [eh, if_neg (fun h => by cases h.2)] at e7'
              exact goB σ4 _ _ e7' c2 f4
            | false =>
              refine ⟨fun h9 => absurd nI_0 h9, fun _ => ?_⟩
              rw [eh, if_pos ⟨h15', rfl⟩] at e7'
              obtain ⟨-, -, -, -, -, -, -, -, kb, -⟩ := hs1.2.1.2.1 _ hk'
              have := kb (Or.inr h15')
              rw [nI_add]
              exact goB σ4 _ _ e7' c2 f4
        simp only [nI_c (show 88 + 6 * s1.2.2 7 < 2147483648 by omega), nI_c (show s1.2.2 7 < 2147483648 by omega), nI_c (show 88 + 6 * s1.2.2 7 + 1 < 2147483648 by omega), nI_add]
        have f5 := f2.tr f3
        have tail : ∀ v, v = r.2.2.2 0 + (if r.1 then 0 else 1) → (¬ (qwi σ3 156 0 (nI v)).1 140 (88 + 6 * s1.2.2 7) = nI 16 → qV 361 10 (.inr (.inr fun σ' => zML σ' W n (zfin W n s) ∧ zF zPl σ σ')) 140 [some (qr 139), some (qi x1), some (qi (nI (s1.2.2 7))), some (qi (nI (88 + 6 * s1.2.2 7)))] [] (qwi σ3 156 0 (nI v))) ∧
            ((qwi σ3 156 0 (nI v)).1 140 (88 + 6 * s1.2.2 7) = nI 16 → qin (nI (88 + 6 * s1.2.2 7 + 1)) 3088 ∧ qin (nI (s1.2.2 7)) 80 ∧ qV 361 10 (.inr (.inr fun σ' => zML σ' W n (zfin W n s) ∧ zF zPl σ σ')) 140 [some (qr 139), some (qi x1), some (qi (nI (s1.2.2 7))), some (qi (nI (88 + 6 * s1.2.2 7)))] []
              (qwi (qwi σ3 156 0 (nI v)) 155 (s1.2.2 7) ((qwi σ3 156 0 (nI v)).1 140 (88 + 6 * s1.2.2 7 + 1) - nI 1))) := by
          intro v hv
          have c1 := b3.r (i := 0) (v := v) hwr (by decide)
          have g0 : (qwi σ3 156 0 (nI v)).1 140 (88 + 6 * s1.2.2 7) = nI (W (s1.2.2 7) 0) := c1.2.1.2 _ hk' 0 (by decide)
          have g1 : (qwi σ3 156 0 (nI v)).1 140 (88 + 6 * s1.2.2 7 + 1) = nI (W (s1.2.2 7) 1) := c1.2.1.2 _ hk' 1 (by decide)
          have f6 : zF zPl σ (qwi σ3 156 0 (nI v)) := f5.tr zPl_r
          rw [g0, g1, nI_eq (by omega) (by omega)]
          refine ⟨fun h16 => ?_, fun h16 => ?_⟩
          · refine go140 _ ?_ f6
            rw [if_neg h16, ← hv]
            exact c1
          · obtain ⟨-, -, -, -, -, kl, -⟩ := hs1.2.1.2.1 _ hk'
            have := kl h16
            refine ⟨qin_n (by omega) (by decide), qin_n (by omega) (by decide), go140 _ ?_ (f6.tr zPl_l)⟩
            rw [if_pos h16, ← hv, nI_sub (by omega)]
            exact c1.l hwr
        have h0 := hd0
        cases er1 : r.1 with
        | true =>
          refine ⟨fun h9 => absurd h9 (by decide), fun _ => ?_⟩
          exact ⟨qin_n (by omega) (by decide), tail (s1.2.2 0 + 0) (by rw [hd0, er1]; rfl)⟩
        | false =>
          refine ⟨fun _ => ?_, fun h9 => absurd nI_0 h9⟩
          exact ⟨qin_n (by omega) (by decide), tail (s1.2.2 0 + 1) (by rw [hd0, er1]; rfl)⟩
      · have e : zmove1 W n s1 = zsR (zsR s1 5 (s1.2.2 5 + 1)) 8 1 := by
          unfold zmove1
          rw [if_neg hk, if_neg h17, if_neg h3, if_pos h4]
        rw [← e1, hfi, e, zfin_h zsR_e]
        exact ⟨b1.k (by decide), f2⟩
    · have e : zmove1 W n s1 = zsR (zsR s1 4 1) 8 1 := by
        unfold zmove1
        rw [if_neg hk, if_neg h17, if_pos h3]
      rw [← e1, hfi, e, zfin_h zsR_e]
      exact ⟨(h1.r hw1 (by decide)).k (by decide), f1.tr zPl_r⟩
/-- a life's beginning -/
def zst0 (C : zC) (L : Nat → Nat) (seed : Nat) : zL := (C, L, fun i => if i = 6 then seed else 0)
theorem zst0_W {W : Nat → Nat → Nat} {n : Nat} {C : zC} {L : Nat → Nat} {seed : Nat} (hw : zW C) (hW : zWW W n (C 0 0) (C 0 2 * C 0 3)) (h5 : C 0 5 ≤ 9999) (hL : ∀ j, L j ≤ 99) (hs : seed ≤ 9999) : zLW W n (zst0 C L seed) := by
  refine ⟨hw, hW, h5, ?_⟩
  simp only [zst0, Nat.reduceEqDiff, if_false, if_true]
  refine ⟨by omega, by omega, by omega, by omega, by omega, by omega, by omega, hL, by omega, fun o _ _ h => absurd h (by omega)⟩
def zLo (σ : qSg) (L : Nat → Nat) : Prop := ∀ j, j < 60 → σ.1 155 j = nI (L j - 1)
set_option maxRecDepth 20000 in
theorem m_lives {σ : qSg} {W : Nat → Nat → Nat} {n : Nat} {C : zC} {L : Nat → Nat} {seed : Nat} (h : zM σ 0 C) (hM : zMW σ W n) (hw : zW C) (hW : zWW W n (C 0 0) (C 0 2 * C 0 3)) (h5 : C 0 5 ≤ 9999) (hL : ∀ j, L j ≤ 99) (hLo : zLo σ L) (hs : seed ≤ 9999) :
    qCV 10 361 [qr 139, qi (nI seed)] σ (fun σ' => zML σ' W n (zfin W n (zst0 C L seed)) ∧ zF zPl σ σ') := by
  have hst := zst0_W hw hW h5 hL hs
  refine qCV.of [some (qr 139), some (qi (nI seed)), none, none] ok_361 (Nat.le_of_ble_eq_true rfl) rfl ?_
  refine qV.go 30 [12] ok_361 ?_
  simp only [qW_nop, qW_iconst, qW_bipush, qW_sipush, qW_iloadn, qW_aloadn, qW_istoren, qW_iinc, qW_iadd, qW_isub, qW_imul, qW_dup, qW_dup2, qW_ifeq, qW_ifne, qW_icne, qW_iclt, qW_icge, qW_goto, qW_getf, qW_iald, qW_iast, qW_vret, qW_cv2_0, qW_putf0, Nat.reduceAdd, Nat.reduceMul, Nat.reduceBEq, Nat.reduceEqDiff, Nat.reduceLT, Nat.reduceLeDiff, Nat.zero_le, nI_add, nI_mul, nI_cl, qin_eq, qofI, qlg_0, qlg_s, qls_i0, qls_r0, qls_l0, qls_1, qls_2, qkl_i, qkl_r, qkl_l, qkl_n, qIsI_i, qIsL_l, qIsR_r, qint_i, qil_i, qil_r, qil_l, qf4_0, qf4_1, qf4_2, qf4_3, qf2_0, qf2_1, qcs_n, qcs_i, qcs_r, qcs_l, qst_n, qst_c, qJ_0, qJ_st, qJ_go, qfl_I, qfl_Z, qfl_L, qfl_R, qrI_i, qrL_l, qrV_v, qRcv_0, qRcv_s, eq_self, true_and, and_true, true_or, or_true, false_and, and_false, false_or, or_false, ite_true, if_true, if_false, Bool.true_or, Bool.false_or, Bool.or_false, beq_self_eq_true, Bool.false_eq_true, bX12_lives_0, bX12_lives_12, bX12_lives_30, bX12_lives_32, bX12_lives_61, bX12_lives_91, bX12_lives_110, bX12_lives_111, bX12_lives_140, bX12_lives_174, bX12_lives_177, bX12_lives_184, kX12_lives_0, kX12_lives_12, kX12_lives_30, kX12_lives_32, kX12_lives_61, kX12_lives_91, kX12_lives_110, kX12_lives_111, kX12_lives_140, kX12_lives_174, kX12_lives_177, kX12_lives_184, qK_139, qR_139_0, qK_140, qR_139_1, qK_141, qR_139_5, qK_142, qR_139_6, qK_143, qR_139_7, qK_144, qR_139_8, qK_145, qR_139_9, qK_146, qR_139_21, qK_147, qR_139_25, qK_148, qR_139_30, qK_149, qR_139_31, qK_150, qR_139_33, qK_151, qR_139_34, qK_152, qR_139_35, qK_153, qR_139_36, qK_154, qR_139_39, qK_155, qR_139_40, qK_156, qR_139_41, qK_157]
  refine qdown (n := 5) (P := fun i => ∀ σ1, zF zPl σ σ1 → σ1.1 139 38 = nI 0 → σ1.1 139 37 = nI seed → (∀ j, j < 60 → σ1.1 155 j = σ.1 155 j) → (∀ j, σ1.1 140 j = σ.1 140 j) → (∀ j, j < i → σ1.1 156 j = nI 0) → qV 361 10 (.inr (.inr fun σ' => zML σ' W n (zfin W n (zst0 C L seed)) ∧ zF zPl σ σ')) 12 [some (qr 139), some (qi (nI seed)), some (qi (nI i)), none] [] σ1) (fun i hi ih => ?_) 0 (Nat.zero_le _) _ (zPl_d.tr zPl_s) ?_ ?_ ?_ ?_ (fun j hj => absurd hj (by omega))
  · intro σ1 f1 a1 a2 a3 a4 a5
    refine qV.go 30 [12, 32] ok_361 ?_
    simp only [qW_nop, qW_iconst, qW_bipush, qW_sipush, qW_iloadn, qW_aloadn, qW_istoren, qW_iinc, qW_iadd, qW_isub, qW_imul, qW_dup, qW_dup2, qW_ifeq, qW_ifne, qW_icne, qW_iclt, qW_icge, qW_goto, qW_getf, qW_iald, qW_iast, qW_vret, qW_cv2_0, qW_putf0, Nat.reduceAdd, Nat.reduceMul, Nat.reduceBEq, Nat.reduceEqDiff, Nat.reduceLT, Nat.reduceLeDiff, Nat.zero_le, nI_add, nI_mul, nI_cl, qin_eq, qofI, qlg_0, qlg_s, qls_i0, qls_r0, qls_l0, qls_1, qls_2, qkl_i, qkl_r, qkl_l, qkl_n, qIsI_i, qIsL_l, qIsR_r, qint_i, qil_i, qil_r, qil_l, qf4_0, qf4_1, qf4_2, qf4_3, qf2_0, qf2_1, qcs_n, qcs_i, qcs_r, qcs_l, qst_n, qst_c, qJ_0, qJ_st, qJ_go, qfl_I, qfl_Z, qfl_L, qfl_R, qrI_i, qrL_l, qrV_v, qRcv_0, qRcv_s, eq_self, true_and, and_true, true_or, or_true, false_and, and_false, false_or, or_false, ite_true, if_true, if_false, Bool.true_or, Bool.false_or, Bool.or_false, beq_self_eq_true, Bool.false_eq_true, bX12_lives_0, bX12_lives_12, bX12_lives_30, bX12_lives_32, bX12_lives_61, bX12_lives_91, bX12_lives_110, bX12_lives_111, bX12_lives_140, bX12_lives_174, bX12_lives_177, bX12_lives_184, kX12_lives_0, kX12_lives_12, kX12_lives_30, kX12_lives_32, kX12_lives_61, kX12_lives_91, kX12_lives_110, kX12_lives_111, kX12_lives_140, kX12_lives_174, kX12_lives_177, kX12_lives_184, qK_139, qR_139_0, qK_140, qR_139_1, qK_141, qR_139_5, qK_142, qR_139_6, qK_143, qR_139_7, qK_144, qR_139_8, qK_145, qR_139_9, qK_146, qR_139_21, qK_147, qR_139_25, qK_148, qR_139_30, qK_149, qR_139_31, qK_150, qR_139_33, qK_151, qR_139_34, qK_152, qR_139_35, qK_153, qR_139_36, qK_154, qR_139_39, qK_155, qR_139_40, qK_156, qR_139_41, qK_157]
    simp (disch := omega) only [nI_leI, nI_ltI, nI_eq, nI_cl, qin_eq, nI_add, nI_mul, qb_z, qb_t, qb_f, nI_ne0', Nat.reduceAdd, Bool.false_eq_true, if_false, if_true, true_and, and_true, Nat.reduceEqDiff, not_true_eq_false, not_false_eq_true, false_implies, true_implies, ite_true, ite_false]
    refine ⟨fun h1 => ?_, fun h1 => ?_⟩
    · have hML : zML σ1 W n (zst0 C L seed) := by
        refine ⟨h.keep hw fun j hj => a4 _, ⟨by rw [a4]; exact hM.1, fun k hk j hj => by rw [a4]; exact hM.2 k hk j hj⟩, fun j hj => by rw [a3 j hj]; exact hLo j hj, fun j hj => ?_, ?_, ?_⟩
        · rw [a5 j (by omega)]
          simp only [zst0]
          rw [if_neg (by omega)]
        · exact a1
        · exact a2
      have := lives_go (s := zst0 C L seed) (σ := σ) (nI seed) _ (zst0 C L seed) σ1 none (Nat.le_refl _) hML hst (by simp [zst0]) (by
        by_cases hn : n = 0
        · exact Or.inl (by rw [hn]; exact Nat.zero_le _)
        · refine Or.inr fun h17 => ?_
          obtain ⟨-, -, -, -, -, -, -, -, -, kc⟩ := hW.2.1 0 (by omega)
          have := (kc h17).1
          omega) rfl f1
      exact this
    · refine ⟨qin_n (by omega) (by decide), ih (by omega) _ (f1.tr zPl_r) ?_ ?_ (fun j hj => ?_) (fun j => ?_) (fun j hj => ?_)⟩
      · rw [qwi_1, if_neg (by omega), a1]
      · rw [qwi_1, if_neg (by omega), a2]
      · rw [qwi_1, if_neg (by omega), a3 j hj]
      · rw [qwi_1, if_neg (by omega), a4]
      · rw [qwi_1]
        by_cases e : j = i
        · subst e
          rw [if_pos ⟨rfl, rfl⟩]
        · rw [if_neg (by omega), a5 j (by omega)]
  · rw [qwi_1, if_pos ⟨rfl, rfl⟩]
  · rw [qwi_1, if_neg (by omega), qwi_1, if_pos ⟨rfl, rfl⟩]
  · intro j hj
    rw [qwi_1, if_neg (by omega), qwi_1, if_neg (by omega)]
  · intro j
    rw [qwi_1, if_neg (by omega), qwi_1, if_neg (by omega)]
