/-! the reference: quarrels told, a camp's part -/
def zPqu (q a j : Nat) : Prop := zPw a j ∨ (a = 140 ∧ (j = 1825 ∨ (1872 + 4 * q ≤ j ∧ j < 1875 + 4 * q)))
theorem zPqu_w {b : Nat} {σ σ' : qSg} (f : zF zPw σ σ') : zF (zPqu b) σ σ' := f.wk fun _ _ h => Or.inl h
theorem zPqu_t {b t : Nat} {σ σ' : qSg} (f : zF (zPto t) σ σ') (h : t = 1825 ∨ (1872 + 4 * b ≤ t ∧ t < 1875 + 4 * b)) : zF (zPqu b) σ σ' := f.wk fun a j hh => by
  unfold zPto at hh
  unfold zPqu
  rcases hh with hh | ⟨hh, h2⟩
  · exact Or.inl hh
  · exact Or.inr ⟨hh, by omega⟩
theorem zPqu_q0 {σ σ' : qSg} {b : Nat} (hb : b < 10) (f : zF (zPqu b) σ σ') : zG zPq0 zRq σ σ' := f.g fun a j h => by
  unfold zPqu at h
  unfold zPq0
  rcases h with h | ⟨h, h2⟩
  · exact Or.inl h
  · exact Or.inr ⟨h, by omega⟩
theorem zDr.quar {σ σ' : qSg} {D : zC} {N : Nat → List Nat} (hw : zW D) (h : zDr σ D N) (hq10 : D 0 1 < 10) (f : zF (zPqu (D 0 1)) σ σ') {a b g : Nat} (v1 : σ'.1 140 (1872 + 4 * D 0 1) = nI a) (v2 : σ'.1 140 (1872 + 4 * D 0 1 + 1) = nI b) (v3 : σ'.1 140 (1872 + 4 * D 0 1 + 2) = nI g) (v4 : σ'.1 140 1825 = nI (D 0 1 + 1)) :
    zDr σ' (zboot D a b g) N := by
  obtain ⟨wb, wq, ww1, ww2, wh1, wh2, wo, wm, wB, wQ⟩ := id hw
  obtain ⟨d1, d2, d3, d4⟩ := h
  have fr : ∀ j, j ≠ 1825 → ¬ (1872 + 4 * D 0 1 ≤ j ∧ j < 1875 + 4 * D 0 1) → σ'.1 140 j = σ.1 140 j := fun j h1 h2 => f.1 _ _ (by unfold zPqu zPw; omega)
  refine ⟨⟨fun j hj => ?_, fun i hb1 k hk => ?_, fun q hq k hk => ?_⟩, fun i hb1 => ?_, fun i h1 h2 => ?_, fun q h1 h2 => ?_⟩
  · by_cases e : j = 1
    · subst e
      rw [zboot_q]
      exact v4
    · rw [zboot_ne (by omega) (by omega), fr _ (by omega) (by omega)]
      exact d1.1 j hj
  · rw [zboot_ne (by omega) (by omega)] at hb1
    rw [zboot_ne (by omega) (by omega), fr _ (by omega) (by omega)]
    exact d1.2.1 i hb1 k hk
  · rw [zboot_q] at hq
    by_cases e : q = D 0 1
    · subst e
      rcases (show k = 0 ∨ k = 1 ∨ k = 2 ∨ k = 3 by omega) with rfl | rfl | rfl | rfl
      · rw [show 1824 + (48 + 4 * D 0 1 + 0) = 1872 + 4 * D 0 1 by omega, show 6 + 0 = 6 from rfl, zboot_6]; exact v1
      · rw [show 1824 + (48 + 4 * D 0 1 + 1) = 1872 + 4 * D 0 1 + 1 by omega, show 6 + 1 = 7 from rfl, zboot_7]; exact v2
      · rw [show 1824 + (48 + 4 * D 0 1 + 2) = 1872 + 4 * D 0 1 + 2 by omega, show 6 + 2 = 8 from rfl, zboot_8]; exact v3
      · rw [fr _ (by omega) (by omega), show 1824 + (48 + 4 * D 0 1 + 3) = 1875 + 4 * D 0 1 by omega, show 6 + 3 = 9 from rfl, zboot_9]
        exact d4 _ (Nat.le_refl _) hq10
    · rw [zboot_ne (by omega) (by omega), fr _ (by omega) (by omega)]
      exact d1.2.2 q (by omega) k hk
  · rw [zboot_ne (by omega) (by omega)] at hb1
    rw [f.2]
    exact d2 i hb1
  · rw [zboot_ne (by omega) (by omega)] at h1
    rw [fr _ (by omega) (by omega)]
    exact d3 i h1 h2
  · rw [zboot_q] at h1
    rw [fr _ (by omega) (by omega)]
    exact d4 q (by omega) h2
set_option maxRecDepth 20000 in
theorem m_aQuarrel {σ : qSg} {B : Nat → Nat} {n p : Nat} {D : zC} {N : Nat → List Nat} (hB : zBW B n) (hp : p ≤ n) (h : zPd σ B n p) (hw : zW D) (hN : zNW (D 0 0) N) (hd : zDr σ D N) :
    qCI 8 250 [qr 139] σ (fun r σ' => zPo (zpQuar B D N p) r σ' (fun v => zPd σ' B n v.2 ∧ zDr σ' v.1 N) ∧ zG zPq0 zRq σ σ') := by
  obtain ⟨wb, wq, ww1, ww2, wh1, wh2, wo, wm, wB, wQ⟩ := id hw
  have ht := tkE_spec hB hp
  have a0 : σ.1 140 1824 = nI (D 0 0) := hd.1.1 0 (by decide)
  have a1 : σ.1 140 1825 = nI (D 0 1) := hd.1.1 1 (by decide)
  refine qCI.of [some (qr 139), none, none] ok_250 (Nat.le_of_ble_eq_true rfl) rfl ?_
  refine qV.go 30 [93, 132] ok_250 ?_
  simp only [qW_nop, qW_iconst, qW_bipush, qW_sipush, qW_ldcs, qW_iloadn, qW_aloadn, qW_istoren, qW_iadd, qW_dup2, qW_ifeq, qW_ifne, qW_icne, qW_getf, qW_iald, qW_iast, qW_cs1_0, qW_cv1_2, qW_cv2_0, qW_cv3_0, qW_cv4_0, qW_iret1, Nat.reduceAdd, Nat.reduceMul, Nat.reduceBEq, Nat.reduceEqDiff, Nat.reduceLT, Nat.reduceLeDiff, Nat.zero_le, nI_add, nI_mul, nI_cl, qin_eq, qofI, qlg_0, qlg_s, qls_i0, qls_r0, qls_l0, qls_1, qls_2, qkl_i, qkl_r, qkl_l, qkl_n, qIsI_i, qIsL_l, qIsR_r, qint_i, qil_i, qil_r, qil_l, qf4_0, qf4_1, qf4_2, qf4_3, qf2_0, qf2_1, qcs_n, qcs_i, qcs_r, qcs_l, qst_n, qst_c, qJ_0, qJ_st, qJ_go, qfl_I, qfl_Z, qfl_L, qfl_R, qrI_i, qrL_l, qrV_v, qRcv_0, qRcv_s, eq_self, true_and, and_true, true_or, or_true, false_and, and_false, false_or, or_false, ite_true, if_true, if_false, Bool.true_or, Bool.false_or, Bool.or_false, beq_self_eq_true, Bool.false_eq_true, bX12_aQuarrel_0, bX12_aQuarrel_45, bX12_aQuarrel_62, bX12_aQuarrel_93, bX12_aQuarrel_130, bX12_aQuarrel_132, kX12_aQuarrel_0, kX12_aQuarrel_45, kX12_aQuarrel_62, kX12_aQuarrel_93, kX12_aQuarrel_130, kX12_aQuarrel_132, qK_139, qR_139_0, qK_140, qR_139_1, qK_141, qR_139_5, qK_142, qR_139_6, qK_143, qR_139_7, qK_144, qR_139_8, qK_145, qR_139_9, qK_146, qR_139_21, qK_147, qR_139_25, qK_148, qR_139_30, qK_149, qR_139_31, qK_150, qR_139_33, qK_151, qR_139_34, qK_152, qR_139_35, qK_153, qR_139_36, qK_154, qR_139_39, qK_155, qR_139_40, qK_156, qR_139_41, qK_157]
  rw [a0, a1]
  refine qBI.fn (m_quarrelRow σ _) (by decide) ?_
  simp only [nI_mul, nI_add, show 1824 + (48 + 4 * D 0 1) = 1872 + 4 * D 0 1 by omega]
  rw [a1]
  simp (disch := omega) only [nI_leI, nI_ltI, nI_eq, nI_cl, qin_eq, nI_add, nI_mul, qb_z, qb_t, qb_f, nI_ne0', Nat.reduceAdd, Bool.false_eq_true, if_false, if_true, true_and, and_true, Nat.reduceEqDiff, not_true_eq_false, not_false_eq_true, false_implies, true_implies, ite_true, ite_false]
  refine ⟨fun g => ?_, fun g => ?_⟩
  · have hq10 : D 0 1 < 10 := by omega
    have eR : zpQuar B D N p = zbd (zpB B N (D 0 0) (tkE B p)) fun a => zbd (zpB B N (D 0 0) a.2) fun b => if a.1 = b.1 then .inl (zno B a.2 5) else zbd (zpK B 9 b.2) fun p1 => zbd (zpN B 0 99 p1) fun g => .inr (zboot D a.1 b.1 g.1, g.2) := by
      unfold zpQuar
      rw [if_neg g]
    rw [eR]
    refine qBV.of (m_next hB hp h) (by decide) (fun σ1 g1 => ?_)
    obtain ⟨p1, f1⟩ := g1
    have F1 : zF (zPqu (D 0 1)) σ σ1 := zPqu_w (zPa_w f1)
    have mn : ∀ {σ' : qSg}, zF (zPqu (D 0 1)) σ σ' → zMN σ' 32 (D 0 0) N := fun f b hb => by rw [f.2]; exact hd.2.1 b hb
    refine qBI.of (m_oldBoy hB ht.2.2.1 p1 (mn F1) hN wb (by decide) (t := 1872 + 4 * D 0 1) (by omega)) (by decide) (fun r σ2 g2 => ?_)
    obtain ⟨g2, f2⟩ := g2
    have F2 := F1.tr (zPqu_t (b := D 0 1) f2 (Or.inr (by omega)))
    rcases zPo_c g2 with ⟨e, he, rfl, hf⟩ | ⟨a, ha, rfl, p2, y1⟩
    · simp (disch := omega) only [nI_leI, nI_ltI, nI_eq, nI_cl, qin_eq, nI_add, nI_mul, qb_z, qb_t, qb_f, nI_ne0', Nat.reduceAdd, Bool.false_eq_true, if_false, if_true, true_and, and_true, Nat.reduceEqDiff, not_true_eq_false, not_false_eq_true, false_implies, true_implies, ite_true, ite_false]
      exact ⟨zPo_l (by simp only [he, zbd]) rfl hf, zPqu_q0 hq10 F2⟩
    · simp (disch := omega) only [nI_leI, nI_ltI, nI_eq, nI_cl, qin_eq, nI_add, nI_mul, qb_z, qb_t, qb_f, nI_ne0', Nat.reduceAdd, Bool.false_eq_true, if_false, if_true, true_and, and_true, Nat.reduceEqDiff, not_true_eq_false, not_false_eq_true, false_implies, true_implies, ite_true, ite_false]
      have s1 := zpB_inr hB ht.2.2.1 ha
      simp only [ha, zbd_r]
      -- the second boy
      have rest : (∀ b, zpB B N (D 0 0) a.2 = .inr b → a.1 ≠ b.1) → qV 250 8 (.inl fun r σ' => zPo (zbd (zpB B N (D 0 0) a.2) fun b => if a.1 = b.1 then .inl (zno B a.2 5) else zbd (zpK B 9 b.2) fun p1 => zbd (zpN B 0 99 p1) fun g => .inr (zboot D a.1 b.1 g.1, g.2)) r σ' (fun v => zPd σ' B n v.2 ∧ zDr σ' v.1 N) ∧ zG zPq0 zRq σ σ') 93 [some (qr 139), some (qi (nI (D 0 0))), some (qi (nI (1872 + 4 * D 0 1)))] [] σ2 := by
        intro hne
        refine qV.go 30 [132] ok_250 ?_
        simp only [qW_nop, qW_iconst, qW_bipush, qW_sipush, qW_ldcs, qW_iloadn, qW_aloadn, qW_istoren, qW_iadd, qW_dup2, qW_ifeq, qW_ifne, qW_icne, qW_getf, qW_iald, qW_iast, qW_cs1_0, qW_cv1_2, qW_cv2_0, qW_cv3_0, qW_cv4_0, qW_iret1, Nat.reduceAdd, Nat.reduceMul, Nat.reduceBEq, Nat.reduceEqDiff, Nat.reduceLT, Nat.reduceLeDiff, Nat.zero_le, nI_add, nI_mul, nI_cl, qin_eq, qofI, qlg_0, qlg_s, qls_i0, qls_r0, qls_l0, qls_1, qls_2, qkl_i, qkl_r, qkl_l, qkl_n, qIsI_i, qIsL_l, qIsR_r, qint_i, qil_i, qil_r, qil_l, qf4_0, qf4_1, qf4_2, qf4_3, qf2_0, qf2_1, qcs_n, qcs_i, qcs_r, qcs_l, qst_n, qst_c, qJ_0, qJ_st, qJ_go, qfl_I, qfl_Z, qfl_L, qfl_R, qrI_i, qrL_l, qrV_v, qRcv_0, qRcv_s, eq_self, true_and, and_true, true_or, or_true, false_and, and_false, false_or, or_false, ite_true, if_true, if_false, Bool.true_or, Bool.false_or, Bool.or_false, beq_self_eq_true, Bool.false_eq_true, bX12_aQuarrel_0, bX12_aQuarrel_45, bX12_aQuarrel_62, bX12_aQuarrel_93, bX12_aQuarrel_130, bX12_aQuarrel_132, kX12_aQuarrel_0, kX12_aQuarrel_45, kX12_aQuarrel_62, kX12_aQuarrel_93, kX12_aQuarrel_130, kX12_aQuarrel_132, qK_139, qR_139_0, qK_140, qR_139_1, qK_141, qR_139_5, qK_142, qR_139_6, qK_143, qR_139_7, qK_144, qR_139_8, qK_145, qR_139_9, qK_146, qR_139_21, qK_147, qR_139_25, qK_148, qR_139_30, qK_149, qR_139_31, qK_150, qR_139_33, qK_151, qR_139_34, qK_152, qR_139_35, qK_153, qR_139_36, qK_154, qR_139_39, qK_155, qR_139_40, qK_156, qR_139_41, qK_157]
        refine qBI.of (m_oldBoy hB s1.2.1 p2 (mn F2) hN wb (by decide) (t := 1872 + 4 * D 0 1 + 1) (by omega)) (by decide) (fun r σ3 g3 => ?_)
        obtain ⟨g3, f3⟩ := g3
        have F3 := F2.tr (zPqu_t (b := D 0 1) f3 (Or.inr (by omega)))
        rcases zPo_c g3 with ⟨e, he, rfl, hf⟩ | ⟨b, hb, rfl, p3, y2⟩
        · simp (disch := omega) only [nI_leI, nI_ltI, nI_eq, nI_cl, qin_eq, nI_add, nI_mul, qb_z, qb_t, qb_f, nI_ne0', Nat.reduceAdd, Bool.false_eq_true, if_false, if_true, true_and, and_true, Nat.reduceEqDiff, not_true_eq_false, not_false_eq_true, false_implies, true_implies, ite_true, ite_false]
          exact ⟨zPo_l (by simp only [he, zbd]) rfl hf, zPqu_q0 hq10 F3⟩
        · simp (disch := omega) only [nI_leI, nI_ltI, nI_eq, nI_cl, qin_eq, nI_add, nI_mul, qb_z, qb_t, qb_f, nI_ne0', Nat.reduceAdd, Bool.false_eq_true, if_false, if_true, true_and, and_true, Nat.reduceEqDiff, not_true_eq_false, not_false_eq_true, false_implies, true_implies, ite_true, ite_false]
          have s2 := zpB_inr hB s1.2.1 hb
          have hab := hne b hb
          simp only [hb, zbd_r, if_neg hab]
          refine qBI.of (m_wantWord hB s2.2.1 p3 (k := 9) (by decide)) (by decide) (fun r σ4 g4 => ?_)
          obtain ⟨g4, f4⟩ := g4
          have F4 := F3.tr (zPqu_w (b := D 0 1) f4)
          rcases zPo_c g4 with ⟨e, he, rfl, hf⟩ | ⟨q, hq, rfl, p4⟩
          · simp (disch := omega) only [nI_leI, nI_ltI, nI_eq, nI_cl, qin_eq, nI_add, nI_mul, qb_z, qb_t, qb_f, nI_ne0', Nat.reduceAdd, Bool.false_eq_true, if_false, if_true, true_and, and_true, Nat.reduceEqDiff, not_true_eq_false, not_false_eq_true, false_implies, true_implies, ite_true, ite_false]
            exact ⟨zPo_l (by simp only [he, zbd]) rfl hf, zPqu_q0 hq10 F4⟩
          · simp (disch := omega) only [nI_leI, nI_ltI, nI_eq, nI_cl, qin_eq, nI_add, nI_mul, qb_z, qb_t, qb_f, nI_ne0', Nat.reduceAdd, Bool.false_eq_true, if_false, if_true, true_and, and_true, Nat.reduceEqDiff, not_true_eq_false, not_false_eq_true, false_implies, true_implies, ite_true, ite_false]
            have s3 := zpK_inr hB s2.2.1 (by decide) hq
            simp only [hq, zbd_r]
            refine qBI.of (m_number hB s3.2 p4 (t := 1872 + 4 * D 0 1 + 2) (lo := 0) (hi := 99) (by omega) (by decide) (by decide)) (by decide) (fun r σ5 g5 => ?_)
            obtain ⟨g5, f5⟩ := g5
            have F5 := F4.tr (zPqu_t (b := D 0 1) f5 (Or.inr (by omega)))
            rcases zPo_c g5 with ⟨e, he, rfl, hf⟩ | ⟨u, hu, rfl, p5, y3⟩
            · simp (disch := omega) only [nI_leI, nI_ltI, nI_eq, nI_cl, qin_eq, nI_add, nI_mul, qb_z, qb_t, qb_f, nI_ne0', Nat.reduceAdd, Bool.false_eq_true, if_false, if_true, true_and, and_true, Nat.reduceEqDiff, not_true_eq_false, not_false_eq_true, false_implies, true_implies, ite_true, ite_false]
              exact ⟨zPo_l (by simp only [he, zbd]) rfl hf, zPqu_q0 hq10 F5⟩
            · simp (disch := omega) only [nI_leI, nI_ltI, nI_eq, nI_cl, qin_eq, nI_add, nI_mul, qb_z, qb_t, qb_f, nI_ne0', Nat.reduceAdd, Bool.false_eq_true, if_false, if_true, true_and, and_true, Nat.reduceEqDiff, not_true_eq_false, not_false_eq_true, false_implies, true_implies, ite_true, ite_false]
              simp only [hu, zbd_r]
              have z1 : σ5.1 140 1825 = nI (D 0 1) := by
                rw [zPto_at f5 (by omega), zPw_at f4, zPto_at f3 (by omega), zPto_at f2 (by omega), zPa_at f1]; exact a1
              refine qV.go 30 [9999] ok_250 ?_
              simp only [qW_nop, qW_iconst, qW_bipush, qW_sipush, qW_ldcs, qW_iloadn, qW_aloadn, qW_istoren, qW_iadd, qW_dup2, qW_ifeq, qW_ifne, qW_icne, qW_getf, qW_iald, qW_iast, qW_cs1_0, qW_cv1_2, qW_cv2_0, qW_cv3_0, qW_cv4_0, qW_iret1, Nat.reduceAdd, Nat.reduceMul, Nat.reduceBEq, Nat.reduceEqDiff, Nat.reduceLT, Nat.reduceLeDiff, Nat.zero_le, nI_add, nI_mul, nI_cl, qin_eq, qofI, qlg_0, qlg_s, qls_i0, qls_r0, qls_l0, qls_1, qls_2, qkl_i, qkl_r, qkl_l, qkl_n, qIsI_i, qIsL_l, qIsR_r, qint_i, qil_i, qil_r, qil_l, qf4_0, qf4_1, qf4_2, qf4_3, qf2_0, qf2_1, qcs_n, qcs_i, qcs_r, qcs_l, qst_n, qst_c, qJ_0, qJ_st, qJ_go, qfl_I, qfl_Z, qfl_L, qfl_R, qrI_i, qrL_l, qrV_v, qRcv_0, qRcv_s, eq_self, true_and, and_true, true_or, or_true, false_and, and_false, false_or, or_false, ite_true, if_true, if_false, Bool.true_or, Bool.false_or, Bool.or_false, beq_self_eq_true, Bool.false_eq_true, bX12_aQuarrel_0, bX12_aQuarrel_45, bX12_aQuarrel_62, bX12_aQuarrel_93, bX12_aQuarrel_130, bX12_aQuarrel_132, kX12_aQuarrel_0, kX12_aQuarrel_45, kX12_aQuarrel_62, kX12_aQuarrel_93, kX12_aQuarrel_130, kX12_aQuarrel_132, qK_139, qR_139_0, qK_140, qR_139_1, qK_141, qR_139_5, qK_142, qR_139_6, qK_143, qR_139_7, qK_144, qR_139_8, qK_145, qR_139_9, qK_146, qR_139_21, qK_147, qR_139_25, qK_148, qR_139_30, qK_149, qR_139_31, qK_150, qR_139_33, qK_151, qR_139_34, qK_152, qR_139_35, qK_153, qR_139_36, qK_154, qR_139_39, qK_155, qR_139_40, qK_156, qR_139_41, qK_157]
              rw [z1]
              simp (disch := omega) only [nI_leI, nI_ltI, nI_eq, nI_cl, qin_eq, nI_add, nI_mul, qb_z, qb_t, qb_f, nI_ne0', Nat.reduceAdd, Bool.false_eq_true, if_false, if_true, true_and, and_true, Nat.reduceEqDiff, not_true_eq_false, not_false_eq_true, false_implies, true_implies, ite_true, ite_false]
              have F6 : zF (zPqu (D 0 1)) σ (qwi σ5 140 1825 (nI (D 0 1 + 1))) := F5.tr (zF.wi (Or.inr ⟨rfl, Or.inl rfl⟩))
              refine ⟨zPo_r rfl rfl ⟨p5.at, hd.quar hw hq10 F6 ?_ ?_ ?_ ?_⟩, zPqu_q0 hq10 F6⟩
              · rw [qwi_1, if_neg (by omega), zPto_at f5 (by omega), zPw_at f4, zPto_at f3 (by omega)]; exact y1
              · rw [qwi_1, if_neg (by omega), zPto_at f5 (by omega), zPw_at f4]; exact y2
              · rw [qwi_1, if_neg (by omega)]; exact y3
              · rw [qwi_1, if_pos ⟨rfl, rfl⟩]
      refine qBI.fn (m_isName hB s1.2.1 p2.1) (by decide) ?_
      simp (disch := omega) only [nI_leI, nI_ltI, nI_eq, nI_cl, qin_eq, nI_add, nI_mul, qb_z, qb_t, qb_f, nI_ne0', Nat.reduceAdd, Bool.false_eq_true, if_false, if_true, true_and, and_true, Nat.reduceEqDiff, not_true_eq_false, not_false_eq_true, false_implies, true_implies, ite_true, ite_false]
      refine ⟨fun g3 => ?_, fun g3 => ?_⟩
      · refine rest (fun b hb => ?_)
        unfold zpB at hb
        rw [if_pos g3] at hb
        cases hb
      · have g3' : zisN B a.2 = true := by simpa using g3
        have hwm := tkW_Nm hB s1.2.1 g3'
        refine qBI.fn (m_findHere hB s1.2.1 p2.1 hwm (mn F2) hN wb (by decide)) (by decide) ?_
        have hle := zfd_le N (tkW B a.2) (D 0 0)
        rw [y1]
        by_cases e1 : zfd N (tkW B a.2) (D 0 0) = D 0 0
        · rw [if_pos e1]
          refine ⟨fun _ => ?_, fun g4 => ?_⟩
          · refine rest (fun b hb => ?_)
            unfold zpB at hb
            rw [if_neg (by rw [g3']; decide), if_pos e1] at hb
            cases hb
          · exfalso
            rw [qeq, nI_t (by omega), iI_toInt (by decide) (by decide)] at g4
            omega
        · rw [if_neg e1]
          have eb : zpB B N (D 0 0) a.2 = .inr (zfd N (tkW B a.2) (D 0 0), tkE B a.2) := by
            unfold zpB
            rw [if_neg (by rw [g3']; decide), if_neg e1]
          simp (disch := omega) only [nI_leI, nI_ltI, nI_eq, nI_cl, qin_eq, nI_add, nI_mul, qb_z, qb_t, qb_f, nI_ne0', Nat.reduceAdd, Bool.false_eq_true, if_false, if_true, true_and, and_true, Nat.reduceEqDiff, not_true_eq_false, not_false_eq_true, false_implies, true_implies, ite_true, ite_false]
          refine ⟨fun g4 => ?_, fun g4 => ?_⟩
          · refine rest (fun b hb => ?_)
            rw [eb] at hb
            cases hb
            exact fun e => g4 e.symm
          · refine qBI.of (m_fails p2) (by decide) (fun r σ3 g5 => ?_)
            obtain ⟨rfl, g6, g7⟩ := g5
            refine ⟨Or.inl rfl, zPo_l (e := zno B a.2 5) ?_ rfl g6, (zPqu_q0 hq10 F2).tr (zPw_q0 g7)⟩
            simp only [eb, zbd_r]
            rw [if_pos g4.symm]
  · refine qBI.of (m_fails h) (by decide) (fun r σ2 g3 => ?_)
    obtain ⟨rfl, g4, g5⟩ := g3
    exact ⟨Or.inl rfl, zPo_l (by unfold zpQuar; rw [if_pos g]) rfl g4, zPw_q0 g5⟩
