/-! the reference: which prides fit -/
theorem zwrong_ok {C : zC} {T : zT} {b t n : Int32} (h : zwrong C T b t n = 0) : ∃ b' t' n' m, b' < C 0 0 ∧ b = nI b' ∧ t' < 4 ∧ t = nI t' ∧ n' ≤ 20 ∧ n = nI n' ∧ T.2.1 t' = some m ∧ 2 * n' ≤ m ∧ ∀ k, k < n' → zrl (T.2.2 t' (2 * k)) (C 0 0) = true ∧ zlh (T.2.2 t' (2 * k + 1)) 0 200 = true := by
  unfold zwrong at h
  split at h
  · cases h
  · rename_i h1
    simp only [Bool.not_eq_false, Bool.and_eq_true] at h1
    obtain ⟨b', hb, rfl⟩ := zrg_nI h1.1.1
    obtain ⟨t', ht, rfl⟩ := zrg_nI h1.1.2
    obtain ⟨n', -, hn, rfl⟩ := zih_nI h1.2
    rw [nI_tn (by omega), nI_tn (by omega)] at h
    split at h
    · cases h
    · rename_i m hm
      split at h
      · cases h
      · split at h
        · rename_i h2 h3
          refine ⟨b', t', n', m, hb, rfl, ht, rfl, hn, rfl, hm, by omega, fun k hk => ?_⟩
          have := (zall_iff _ _).mp h3 k hk
          simpa only [Bool.and_eq_true] using this
        · cases h
set_option maxRecDepth 20000 in
theorem m_wrongSeen {σ : qSg} {C : zC} (h : zM σ 0 C) (hw : zW C) {T : zT} (ht : zMT σ T) (hT : zTW T) (b t n : Int32) : qFI 2 333 [qr 139, qi b, qi t, qi n] σ (nI (zwrong C T b t n)) := by
  obtain ⟨wb, wq, ww1, ww2, wh1, wh2, wo, wm, wB, wQ⟩ := id hw
  refine qCI.of [some (qr 139), some (qi b), some (qi t), some (qi n), none, none] ok_333 (Nat.le_of_ble_eq_true rfl) rfl ?_
  refine qV.go 30 [59] ok_333 ?_
  simp only [qW_nop, qW_iconst, qW_iconstm, qW_bipush, qW_ldc2, qW_lconst, qW_iloadn, qW_iload, qW_aloadn, qW_istore, qW_iinc, qW_iadd, qW_imul, qW_i2l, qW_ifeq, qW_ifne, qW_icne, qW_icge, qW_goto, qW_getf, qW_iald, qW_lald, qW_cs1_0, qW_cs3_0, qW_cv2_0, qW_iret0, Nat.reduceAdd, Nat.reduceMul, Nat.reduceBEq, Nat.reduceEqDiff, Nat.reduceLT, Nat.reduceLeDiff, Nat.zero_le, nI_add, nI_mul, nI_cl, qin_eq, qofI, qlg_0, qlg_s, qls_i0, qls_r0, qls_l0, qls_1, qls_2, qkl_i, qkl_r, qkl_l, qkl_n, qIsI_i, qIsL_l, qIsR_r, qint_i, qil_i, qil_r, qil_l, qf4_0, qf4_1, qf4_2, qf4_3, qf2_0, qf2_1, qcs_n, qcs_i, qcs_r, qcs_l, qst_n, qst_c, qJ_0, qJ_st, qJ_go, qfl_I, qfl_Z, qfl_L, qfl_R, qrI_i, qrL_l, qrV_v, qRcv_0, qRcv_s, eq_self, true_and, and_true, true_or, or_true, false_and, and_false, false_or, or_false, ite_true, if_true, if_false, Bool.true_or, Bool.false_or, Bool.or_false, beq_self_eq_true, Bool.false_eq_true, bX12_wrongSeen_0, bX12_wrongSeen_28, bX12_wrongSeen_30, bX12_wrongSeen_42, bX12_wrongSeen_56, bX12_wrongSeen_59, bX12_wrongSeen_109, bX12_wrongSeen_111, bX12_wrongSeen_117, kX12_wrongSeen_0, kX12_wrongSeen_28, kX12_wrongSeen_30, kX12_wrongSeen_42, kX12_wrongSeen_56, kX12_wrongSeen_59, kX12_wrongSeen_109, kX12_wrongSeen_111, kX12_wrongSeen_117, qK_139, qR_139_0, qK_140, qR_139_1, qK_141, qR_139_5, qK_142, qR_139_6, qK_143, qR_139_7, qK_144, qR_139_8, qK_145, qR_139_9, qK_146, qR_139_21, qK_147, qR_139_25, qK_148, qR_139_30, qK_149, qR_139_31, qK_150, qR_139_33, qK_151, qR_139_34, qK_152, qR_139_35, qK_153, qR_139_36, qK_154, qR_139_39, qK_155, qR_139_40, qK_156, qR_139_41, qK_157]
  refine qBI.fn (m_isBoy h hw _) (by decide) ?_
  rw [zrl_i]
  simp (disch := omega) only [nI_leI, nI_ltI, nI_eq, nI_cl, qin_eq, nI_add, nI_mul, qb_z, qb_t, qb_f, nI_ne0', Nat.reduceAdd, Bool.false_eq_true, if_false, if_true, true_and, and_true, Nat.reduceEqDiff, not_true_eq_false, not_false_eq_true, false_implies, true_implies, ite_true, ite_false, Bool.not_eq_false, Bool.not_eq_true]
  refine ⟨fun h1 => ?_, fun h1 => ?_⟩
  · unfold zwrong; rw [h1]; rfl
  · refine qBI.fn (m_isTray σ t) (by decide) ?_
    simp (disch := omega) only [nI_leI, nI_ltI, nI_eq, nI_cl, qin_eq, nI_add, nI_mul, qb_z, qb_t, qb_f, nI_ne0', Nat.reduceAdd, Bool.false_eq_true, if_false, if_true, true_and, and_true, Nat.reduceEqDiff, not_true_eq_false, not_false_eq_true, false_implies, true_implies, ite_true, ite_false, Bool.not_eq_false, Bool.not_eq_true]
    refine ⟨fun h2 => ?_, fun h2 => ?_⟩
    · unfold zwrong; rw [h1, h2]; rfl
    · refine qBI.fn (m_isFrom' σ _ (by decide) (by decide)) (by decide) ?_
      rw [zlh_i]
      simp (disch := omega) only [nI_leI, nI_ltI, nI_eq, nI_cl, qin_eq, nI_add, nI_mul, qb_z, qb_t, qb_f, nI_ne0', Nat.reduceAdd, Bool.false_eq_true, if_false, if_true, true_and, and_true, Nat.reduceEqDiff, not_true_eq_false, not_false_eq_true, false_implies, true_implies, ite_true, ite_false, Bool.not_eq_false, Bool.not_eq_true]
      refine ⟨fun h3 => ?_, fun h3 => ?_⟩
      rotate_left
      · unfold zwrong; rw [h1, h2, h3]; rfl
      · obtain ⟨b', hb, rfl⟩ := zrg_nI h1
        obtain ⟨t', ht', rfl⟩ := zrg_nI h2
        obtain ⟨n', -, hn, rfl⟩ := zih_nI h3
        obtain ⟨g1, g2, g3⟩ := ht t' ht'
        have e0 : zwrong C T (nI b') (nI t') (nI n') = match T.2.1 t' with | none => 2 | some m => if m < 2 * n' then 3 else if zall (fun k => zrl (T.2.2 t' (2 * k)) (C 0 0) && zlh (T.2.2 t' (2 * k + 1)) 0 200) n' then 0 else 5 := by
          unfold zwrong
          rw [h1, h2, h3, nI_tn (by omega), nI_tn (by omega)]
          rfl
        simp (disch := omega) only [nI_leI, nI_ltI, nI_eq, nI_cl, qin_eq, nI_add, nI_mul, qb_z, qb_t, qb_f, nI_ne0', Nat.reduceAdd, Bool.false_eq_true, if_false, if_true, true_and, and_true, Nat.reduceEqDiff, not_true_eq_false, not_false_eq_true, false_implies, true_implies, ite_true, ite_false]
        rw [g2, e0]
        cases hm : T.2.1 t' with
        | none =>
          simp only [zoI]
          exact ⟨fun h9 => absurd trivial h9, fun _ => trivial⟩
        | some m =>
          have hm60 := (hT t' ht').2 m hm
          have hne : ¬ nI m = iI (-1) := by
            rw [qeq, nI_t (by omega), iI_toInt (by decide) (by decide)]
            omega
          simp only [zoI]
          refine ⟨fun _ => ?_, fun h9 => absurd h9 hne⟩
          simp (disch := omega) only [nI_leI, nI_ltI, nI_eq, nI_cl, qin_eq, nI_add, nI_mul, qb_z, qb_t, qb_f, nI_ne0', Nat.reduceAdd, Bool.false_eq_true, if_false, if_true, true_and, and_true, Nat.reduceEqDiff, not_true_eq_false, not_false_eq_true, false_implies, true_implies, ite_true, ite_false]
          refine ⟨fun h4 => ?_, fun h4 => ?_⟩
          rotate_left
          · rw [if_pos (by omega)]
            all_goals first | rfl | trivial | exact ⟨rfl, rfl⟩ | exact ⟨rfl, trivial⟩ | exact ⟨rfl, rfl, rfl⟩ | exact ⟨trivial, rfl⟩ | simp
          · rw [if_neg (by omega)]
            have g4 := g3 m
            refine qdown (n := n') (P := fun k => ∀ l5 : Option qPV, zall (fun k => zrl (T.2.2 t' (2 * k)) (C 0 0) && zlh (T.2.2 t' (2 * k + 1)) 0 200) k = true → qV 333 2 _ 59 [some (qr 139), some (qi (nI b')), some (qi (nI t')), some (qi (nI n')), some (qi (nI k)), l5] [] σ) (fun k hk ih => ?_) 0 (Nat.zero_le _) none rfl
            intro l5 hp
            have no : k < n' → (zrl (T.2.2 t' (2 * k)) (C 0 0) && zlh (T.2.2 t' (2 * k + 1)) 0 200) = false → zall (fun k => zrl (T.2.2 t' (2 * k)) (C 0 0) && zlh (T.2.2 t' (2 * k + 1)) 0 200) n' = false := by
              intro hk hh
              cases hz : zall (fun k => zrl (T.2.2 t' (2 * k)) (C 0 0) && zlh (T.2.2 t' (2 * k + 1)) 0 200) n' with
              | false => rfl
              | true => rw [(zall_iff _ _).mp hz k hk] at hh; cases hh
            refine qV.go 30 [59] ok_333 ?_
            simp only [qW_nop, qW_iconst, qW_iconstm, qW_bipush, qW_ldc2, qW_lconst, qW_iloadn, qW_iload, qW_aloadn, qW_istore, qW_iinc, qW_iadd, qW_imul, qW_i2l, qW_ifeq, qW_ifne, qW_icne, qW_icge, qW_goto, qW_getf, qW_iald, qW_lald, qW_cs1_0, qW_cs3_0, qW_cv2_0, qW_iret0, Nat.reduceAdd, Nat.reduceMul, Nat.reduceBEq, Nat.reduceEqDiff, Nat.reduceLT, Nat.reduceLeDiff, Nat.zero_le, nI_add, nI_mul, nI_cl, qin_eq, qofI, qlg_0, qlg_s, qls_i0, qls_r0, qls_l0, qls_1, qls_2, qkl_i, qkl_r, qkl_l, qkl_n, qIsI_i, qIsL_l, qIsR_r, qint_i, qil_i, qil_r, qil_l, qf4_0, qf4_1, qf4_2, qf4_3, qf2_0, qf2_1, qcs_n, qcs_i, qcs_r, qcs_l, qst_n, qst_c, qJ_0, qJ_st, qJ_go, qfl_I, qfl_Z, qfl_L, qfl_R, qrI_i, qrL_l, qrV_v, qRcv_0, qRcv_s, eq_self, true_and, and_true, true_or, or_true, false_and, and_false, false_or, or_false, ite_true, if_true, if_false, Bool.true_or, Bool.false_or, Bool.or_false, beq_self_eq_true, Bool.false_eq_true, bX12_wrongSeen_0, bX12_wrongSeen_28, bX12_wrongSeen_30, bX12_wrongSeen_42, bX12_wrongSeen_56, bX12_wrongSeen_59, bX12_wrongSeen_109, bX12_wrongSeen_111, bX12_wrongSeen_117, kX12_wrongSeen_0, kX12_wrongSeen_28, kX12_wrongSeen_30, kX12_wrongSeen_42, kX12_wrongSeen_56, kX12_wrongSeen_59, kX12_wrongSeen_109, kX12_wrongSeen_111, kX12_wrongSeen_117, qK_139, qR_139_0, qK_140, qR_139_1, qK_141, qR_139_5, qK_142, qR_139_6, qK_143, qR_139_7, qK_144, qR_139_8, qK_145, qR_139_9, qK_146, qR_139_21, qK_147, qR_139_25, qK_148, qR_139_30, qK_149, qR_139_31, qK_150, qR_139_33, qK_151, qR_139_34, qK_152, qR_139_35, qK_153, qR_139_36, qK_154, qR_139_39, qK_155, qR_139_40, qK_156, qR_139_41, qK_157]
            simp (disch := omega) only [nI_leI, nI_ltI, nI_eq, nI_cl, qin_eq, nI_add, nI_mul, qb_z, qb_t, qb_f, nI_ne0', Nat.reduceAdd, Bool.false_eq_true, if_false, if_true, true_and, and_true, Nat.reduceEqDiff, not_true_eq_false, not_false_eq_true, false_implies, true_implies, ite_true, ite_false]
            refine ⟨fun h5 => ?_, fun h5 => ?_⟩
            · rw [show k = n' by omega] at hp
              rw [if_pos hp]
              all_goals first | rfl | trivial | exact ⟨rfl, rfl⟩ | exact ⟨rfl, trivial⟩ | exact ⟨rfl, rfl, rfl⟩ | exact ⟨trivial, rfl⟩ | simp
            · have hk1 : k < n' := by omega
              rw [g4 (2 * k) hm (by omega)]
              refine qBI.fn (m_isBoy h hw _) (by decide) ?_
              simp (disch := omega) only [nI_leI, nI_ltI, nI_eq, nI_cl, qin_eq, nI_add, nI_mul, qb_z, qb_t, qb_f, nI_ne0', Nat.reduceAdd, Bool.false_eq_true, if_false, if_true, true_and, and_true, Nat.reduceEqDiff, not_true_eq_false, not_false_eq_true, false_implies, true_implies, ite_true, ite_false, Bool.not_eq_false, Bool.not_eq_true]
              refine ⟨fun h6 => ?_, fun h6 => ?_⟩
              · rw [if_neg (by rw [no hk1 (by rw [h6]; rfl)]; decide)]
                all_goals first | rfl | trivial | exact ⟨rfl, rfl⟩ | exact ⟨rfl, trivial⟩ | exact ⟨rfl, rfl, rfl⟩ | exact ⟨trivial, rfl⟩ | simp
              · rw [Nat.add_assoc, g4 (2 * k + 1) hm (by omega)]
                refine qBI.fn (m_isFrom' σ _ (by decide) (by decide)) (by decide) ?_
                simp (disch := omega) only [nI_leI, nI_ltI, nI_eq, nI_cl, qin_eq, nI_add, nI_mul, qb_z, qb_t, qb_f, nI_ne0', Nat.reduceAdd, Bool.false_eq_true, if_false, if_true, true_and, and_true, Nat.reduceEqDiff, not_true_eq_false, not_false_eq_true, false_implies, true_implies, ite_true, ite_false, Bool.not_eq_false, Bool.not_eq_true]
                refine ⟨fun h7 => ?_, fun h7 => ?_⟩
                · exact ih hk1 _ (by simp only [zall, hp, h6, h7]; rfl)
                · rw [if_neg (by rw [no hk1 (by rw [h7, Bool.and_false])]; decide)]
                  all_goals first | rfl | trivial | exact ⟨rfl, rfl⟩ | exact ⟨rfl, trivial⟩ | exact ⟨rfl, rfl, rfl⟩ | exact ⟨trivial, rfl⟩ | simp
-- which prides fit
def zfit (C : zC) (T : zT) (b t n p : Nat) : Bool := zall (fun k => decide ((zupb (zu C 2 b p) (T.2.2 t (2 * k)).toInt.toNat : Int) = (T.2.2 t (2 * k + 1)).toInt)) n
theorem qlcmp0 (x y : Int64) : (lg_cmp x y = 0) = (x.toInt = y.toInt) := by
  rw [lg_cmp_eq]
  exact propext Int64.toInt_inj.symm
set_option maxRecDepth 20000 in
theorem m_isSeen {σ : qSg} {C : zC} {T : zT} (ht : zMT σ T) {b t n p m : Nat} (hb : C 0 0 ≤ 8) (ht' : t < 4) (hn : n ≤ 20) (hp : p ≤ 30) (hm : T.2.1 t = some m) (hm2 : 2 * n ≤ m) (hm60 : m ≤ 60) (hv : ∀ k, k < n → zrl (T.2.2 t (2 * k)) (C 0 0) = true ∧ zlh (T.2.2 t (2 * k + 1)) 0 200 = true)
    (hs : ∀ j, j < C 0 0 → σ.1 149 (8 * p + j) = nI (zupb (zu C 2 b p) j)) (hu : ∀ j, zupb (zu C 2 b p) j ≤ 130) : qFI 1 334 [qr 139, qi (nI p), qi (nI t), qi (nI n)] σ (qb (zfit C T b t n p)) := by
  obtain ⟨g1, g2, g3⟩ := ht t ht'
  have g4 := g3 m
  refine qCI.of [some (qr 139), some (qi (nI p)), some (qi (nI t)), some (qi (nI n)), none, none] ok_334 (Nat.le_of_ble_eq_true rfl) rfl ?_
  refine qV.go 30 [3] ok_334 ?_
  simp only [qW_nop, qW_iconst, qW_bipush, qW_iloadn, qW_iload, qW_aloadn, qW_istore, qW_iinc, qW_iadd, qW_imul, qW_lcmp, qW_i2l, qW_l2i, qW_ifeq, qW_icge, qW_goto, qW_getf, qW_iald, qW_lald, qW_iret1, Nat.reduceAdd, Nat.reduceMul, Nat.reduceBEq, Nat.reduceEqDiff, Nat.reduceLT, Nat.reduceLeDiff, Nat.zero_le, nI_add, nI_mul, nI_cl, qin_eq, qofI, qlg_0, qlg_s, qls_i0, qls_r0, qls_l0, qls_1, qls_2, qkl_i, qkl_r, qkl_l, qkl_n, qIsI_i, qIsL_l, qIsR_r, qint_i, qil_i, qil_r, qil_l, qf4_0, qf4_1, qf4_2, qf4_3, qf2_0, qf2_1, qcs_n, qcs_i, qcs_r, qcs_l, qst_n, qst_c, qJ_0, qJ_st, qJ_go, qfl_I, qfl_Z, qfl_L, qfl_R, qrI_i, qrL_l, qrV_v, qRcv_0, qRcv_s, eq_self, true_and, and_true, true_or, or_true, false_and, and_false, false_or, or_false, ite_true, if_true, if_false, Bool.true_or, Bool.false_or, Bool.or_false, beq_self_eq_true, Bool.false_eq_true, bX12_isSeen_0, bX12_isSeen_3, bX12_isSeen_54, bX12_isSeen_60, kX12_isSeen_0, kX12_isSeen_3, kX12_isSeen_54, kX12_isSeen_60, qK_139, qR_139_0, qK_140, qR_139_1, qK_141, qR_139_5, qK_142, qR_139_6, qK_143, qR_139_7, qK_144, qR_139_8, qK_145, qR_139_9, qK_146, qR_139_21, qK_147, qR_139_25, qK_148, qR_139_30, qK_149, qR_139_31, qK_150, qR_139_33, qK_151, qR_139_34, qK_152, qR_139_35, qK_153, qR_139_36, qK_154, qR_139_39, qK_155, qR_139_40, qK_156, qR_139_41, qK_157]
  refine qdown (n := n) (P := fun k => ∀ l5 : Option qPV, zall (fun k => decide ((zupb (zu C 2 b p) (T.2.2 t (2 * k)).toInt.toNat : Int) = (T.2.2 t (2 * k + 1)).toInt)) k = true → qV 334 1 _ 3 [some (qr 139), some (qi (nI p)), some (qi (nI t)), some (qi (nI n)), some (qi (nI k)), l5] [] σ) (fun k hk ih => ?_) 0 (Nat.zero_le _) none rfl
  intro l5 hp1
  have no : k < n → ¬ (zupb (zu C 2 b p) (T.2.2 t (2 * k)).toInt.toNat : Int) = (T.2.2 t (2 * k + 1)).toInt → zfit C T b t n p = false := by
    intro hk hh
    cases hz : zfit C T b t n p with
    | false => rfl
    | true =>
      have := (zall_iff _ _).mp hz k hk
      rw [decide_eq_true_eq] at this
      exact absurd this hh
  refine qV.go 30 [3] ok_334 ?_
  simp only [qW_nop, qW_iconst, qW_bipush, qW_iloadn, qW_iload, qW_aloadn, qW_istore, qW_iinc, qW_iadd, qW_imul, qW_lcmp, qW_i2l, qW_l2i, qW_ifeq, qW_icge, qW_goto, qW_getf, qW_iald, qW_lald, qW_iret1, Nat.reduceAdd, Nat.reduceMul, Nat.reduceBEq, Nat.reduceEqDiff, Nat.reduceLT, Nat.reduceLeDiff, Nat.zero_le, nI_add, nI_mul, nI_cl, qin_eq, qofI, qlg_0, qlg_s, qls_i0, qls_r0, qls_l0, qls_1, qls_2, qkl_i, qkl_r, qkl_l, qkl_n, qIsI_i, qIsL_l, qIsR_r, qint_i, qil_i, qil_r, qil_l, qf4_0, qf4_1, qf4_2, qf4_3, qf2_0, qf2_1, qcs_n, qcs_i, qcs_r, qcs_l, qst_n, qst_c, qJ_0, qJ_st, qJ_go, qfl_I, qfl_Z, qfl_L, qfl_R, qrI_i, qrL_l, qrV_v, qRcv_0, qRcv_s, eq_self, true_and, and_true, true_or, or_true, false_and, and_false, false_or, or_false, ite_true, if_true, if_false, Bool.true_or, Bool.false_or, Bool.or_false, beq_self_eq_true, Bool.false_eq_true, bX12_isSeen_0, bX12_isSeen_3, bX12_isSeen_54, bX12_isSeen_60, kX12_isSeen_0, kX12_isSeen_3, kX12_isSeen_54, kX12_isSeen_60, qK_139, qR_139_0, qK_140, qR_139_1, qK_141, qR_139_5, qK_142, qR_139_6, qK_143, qR_139_7, qK_144, qR_139_8, qK_145, qR_139_9, qK_146, qR_139_21, qK_147, qR_139_25, qK_148, qR_139_30, qK_149, qR_139_31, qK_150, qR_139_33, qK_151, qR_139_34, qK_152, qR_139_35, qK_153, qR_139_36, qK_154, qR_139_39, qK_155, qR_139_40, qK_156, qR_139_41, qK_157]
  simp (disch := omega) only [nI_leI, nI_ltI, nI_eq, nI_cl, qin_eq, nI_add, nI_mul, qb_z, qb_t, qb_f, nI_ne0', Nat.reduceAdd, Bool.false_eq_true, if_false, if_true, true_and, and_true, Nat.reduceEqDiff, not_true_eq_false, not_false_eq_true, false_implies, true_implies, ite_true, ite_false]
  refine ⟨fun h1 => ?_, fun h1 => ?_⟩
  · rw [show k = n by omega] at hp1
    unfold zfit
    rw [hp1]
    all_goals first | rfl | trivial | exact ⟨rfl, rfl⟩ | exact ⟨rfl, trivial⟩ | exact ⟨rfl, rfl, rfl⟩ | exact ⟨trivial, rfl⟩ | simp
  · have hk1 : k < n := by omega
    have hv1 := zrl_nat (hv k hk1).1
    rw [g4 (2 * k) hm (by omega), Nat.add_assoc, g4 (2 * k + 1) hm (by omega)]
    have e1 : (T.2.2 t (2 * k)).toInt32 = nI (T.2.2 t (2 * k)).toInt.toNat := by
      apply Int32.toInt_inj.mp
      rw [nI_t (by omega), Int64.toInt_toInt32, ← hv1.1]
      rw [Int.bmod_eq_of_le (by omega) (by omega)]
    rw [e1]
    have hu1 := hu (T.2.2 t (2 * k)).toInt.toNat
    simp (disch := omega) only [nI_leI, nI_ltI, nI_eq, nI_cl, qin_eq, nI_add, nI_mul, qb_z, qb_t, qb_f, nI_ne0', Nat.reduceAdd, Bool.false_eq_true, if_false, if_true, true_and, and_true, Nat.reduceEqDiff, not_true_eq_false, not_false_eq_true, false_implies, true_implies, ite_true, ite_false]
    rw [hs _ hv1.2, qlcmp0, qi2l, nI_t (by omega)]
    refine ⟨fun h2 => ?_, fun h2 => ?_⟩
    · exact ih hk1 _ (by simp only [zall, hp1, h2]; simp)
    · rw [no hk1 h2]
      all_goals first | rfl | trivial | exact ⟨rfl, rfl⟩ | exact ⟨rfl, trivial⟩ | exact ⟨rfl, rfl, rfl⟩ | exact ⟨trivial, rfl⟩ | simp
theorem zu2_W {C : zC} (hw : zW C) {b p : Nat} (h1 : 1 ≤ p) (h2 : p ≤ 30) : zW (zu C 2 b p) := by
  obtain ⟨wb, wq, ww1, ww2, wh1, wh2, wo, wm, wB, wQ⟩ := id hw
  have e : ∀ f i, f ≠ 2 → zu C 2 b p f i = C f i := fun f i h => zu_ne (by omega)
  refine ⟨?_, ?_, ?_, ?_, ?_, ?_, ?_, ?_, fun b1 hb1 => ?_, fun q hq => ?_⟩
  · rw [e 0 _ (by decide)]; exact wb
  · rw [e 0 _ (by decide)]; exact wq
  · rw [e 0 _ (by decide)]; exact ww1
  · rw [e 0 _ (by decide)]; exact ww2
  · rw [e 0 _ (by decide)]; exact wh1
  · rw [e 0 _ (by decide)]; exact wh2
  · rw [e 0 _ (by decide)]; exact wo
  · rw [e 0 _ (by decide)]; exact wm
  · rw [e 0 _ (by decide)] at hb1
    rw [e 0 _ (by decide), e 0 _ (by decide), e 1 _ (by decide), e 3 _ (by decide), e 4 _ (by decide)]
    have := wB b1 hb1
    by_cases h1 : b1 = b
    · subst h1; rw [zu_eq]; omega
    · rw [zu_ne (by omega)]; exact this
  · rw [e 0 _ (by decide)] at hq
    rw [e 0 _ (by decide), e 6 _ (by decide), e 7 _ (by decide), e 8 _ (by decide), e 9 _ (by decide)]
    exact wQ q hq
def zPf (a j : Nat) : Prop := (a = 140 ∧ 2280 ≤ j ∧ j < 2368) ∨ (a = 139 ∧ (j = 24 ∨ j = 32)) ∨ a = 148 ∨ a = 149 ∨ a = 150
/-- what laysFits leaves -/
def zFits (C : zC) (T : zT) (b t n : Nat) (σ : qSg) : Prop := (∀ p, 1 ≤ p → p ≤ 30 → σ.1 150 p = qb (zfit C T b t n p) ∧ ∀ j, j < C 0 0 → σ.1 149 (8 * p + j) = nI (zupb (zu C 2 b p) j)) ∧ σ.1 139 32 = nI (zcount (fun i => zfit C T b t n (i + 1)) 30)
set_option maxRecDepth 20000 in
theorem m_laysFits {σ : qSg} {C : zC} (h : zM σ 0 C) (hw : zW C) {T : zT} (ht : zMT σ T) (hm : C 0 5 ≤ 99000) {b t n m : Nat} (hb : b < C 0 0) (ht' : t < 4) (hn : n ≤ 20) (hTm : T.2.1 t = some m) (hm2 : 2 * n ≤ m) (hm60 : m ≤ 60) (hv : ∀ k, k < n → zrl (T.2.2 t (2 * k)) (C 0 0) = true ∧ zlh (T.2.2 t (2 * k + 1)) 0 200 = true) :
    qCV 8 335 [qr 139, qi (nI b), qi (nI t), qi (nI n)] σ (fun σ' => zFits C T b t n σ' ∧ zF zPf σ σ') := by
  obtain ⟨wb, wq, ww1, ww2, wh1, wh2, wo, wm, wB, wQ⟩ := id hw
  have g := wB b hb
  refine qCV.of [some (qr 139), some (qi (nI b)), some (qi (nI t)), some (qi (nI n)), none, none, none] ok_335 (Nat.le_of_ble_eq_true rfl) rfl ?_
  refine qV.go 30 [16] ok_335 ?_
  simp only [qW_nop, qW_iconst, qW_bipush, qW_iloadn, qW_iload, qW_aloadn, qW_istore, qW_iinc, qW_iadd, qW_imul, qW_dup, qW_ifeq, qW_icge, qW_icgt, qW_goto, qW_getf, qW_iald, qW_bald, qW_iast, qW_bast, qW_vret, qW_cs1_0, qW_cv1_2, qW_cv3_0, qW_cv4_0, qW_putf0, Nat.reduceAdd, Nat.reduceMul, Nat.reduceBEq, Nat.reduceEqDiff, Nat.reduceLT, Nat.reduceLeDiff, Nat.zero_le, nI_add, nI_mul, nI_cl, qin_eq, qofI, qlg_0, qlg_s, qls_i0, qls_r0, qls_l0, qls_1, qls_2, qkl_i, qkl_r, qkl_l, qkl_n, qIsI_i, qIsL_l, qIsR_r, qint_i, qil_i, qil_r, qil_l, qf4_0, qf4_1, qf4_2, qf4_3, qf2_0, qf2_1, qcs_n, qcs_i, qcs_r, qcs_l, qst_n, qst_c, qJ_0, qJ_st, qJ_go, qfl_I, qfl_Z, qfl_L, qfl_R, qrI_i, qrL_l, qrV_v, qRcv_0, qRcv_s, eq_self, true_and, and_true, true_or, or_true, false_and, and_false, false_or, or_false, ite_true, if_true, if_false, Bool.true_or, Bool.false_or, Bool.or_false, beq_self_eq_true, Bool.false_eq_true, bX12_laysFits_0, bX12_laysFits_16, bX12_laysFits_43, bX12_laysFits_80, bX12_laysFits_114, bX12_laysFits_115, bX12_laysFits_125, kX12_laysFits_0, kX12_laysFits_16, kX12_laysFits_43, kX12_laysFits_80, kX12_laysFits_114, kX12_laysFits_115, kX12_laysFits_125, qK_139, qR_139_0, qK_140, qR_139_1, qK_141, qR_139_5, qK_142, qR_139_6, qK_143, qR_139_7, qK_144, qR_139_8, qK_145, qR_139_9, qK_146, qR_139_21, qK_147, qR_139_25, qK_148, qR_139_30, qK_149, qR_139_31, qK_150, qR_139_33, qK_151, qR_139_34, qK_152, qR_139_35, qK_153, qR_139_36, qK_154, qR_139_39, qK_155, qR_139_40, qK_156, qR_139_41, qK_157]
  refine qBI.fn (m_boyOf σ (by omega)) (by decide) ?_
  rw [zMb1 h hb]
  have key := qdown (n := 30) (P := fun c => ∀ (σ1 : qSg) (l6 : Option qPV) (x : Nat), 1 ≤ x → x ≤ 30 → zM σ1 0 (zu C 2 b x) → zF (fun a j => zPf a j ∨ (a = 140 ∧ j = 8 + 5 * b + 1)) σ σ1 →
      (∀ p, 1 ≤ p → p ≤ c → σ1.1 150 p = qb (zfit C T b t n p) ∧ ∀ j, j < C 0 0 → σ1.1 149 (8 * p + j) = nI (zupb (zu C 2 b p) j)) → σ1.1 139 32 = nI (zcount (fun i => zfit C T b t n (i + 1)) c) →
    qV 335 8 (.inr (.inr fun σ' => zFits C T b t n σ' ∧ zF zPf σ σ')) 16 [some (qr 139), some (qi (nI b)), some (qi (nI t)), some (qi (nI n)), some (qi (nI (C 2 b))), some (qi (nI (c + 1))), l6] [] σ1) (fun c hc ih => ?_)
  · refine key 0 (Nat.zero_le _) _ none (C 2 b) g.2.1 g.2.2.1 ?_ (zF.wi (by unfold zPf; omega)) (fun p h1 h2 => absurd h1 (by omega)) ?_
    · rw [zu_self]
      exact zM_wi h (by omega) hw
    · rw [qwi_1, if_pos (by simp)]
      rfl
  · intro σ1 l6 x hx1 hx2 a1 f1 r1 m1
    have w1 := zu2_W (b := b) hw hx1 hx2
    have e00 : zu C 2 b x 0 0 = C 0 0 := zu_ne (by omega)
    have hcl := zcount_le (fun i => zfit C T b t n (i + 1)) c
    refine qV.go 30 [16, 43] ok_335 ?_
    simp only [qW_nop, qW_iconst, qW_bipush, qW_iloadn, qW_iload, qW_aloadn, qW_istore, qW_iinc, qW_iadd, qW_imul, qW_dup, qW_ifeq, qW_icge, qW_icgt, qW_goto, qW_getf, qW_iald, qW_bald, qW_iast, qW_bast, qW_vret, qW_cs1_0, qW_cv1_2, qW_cv3_0, qW_cv4_0, qW_putf0, Nat.reduceAdd, Nat.reduceMul, Nat.reduceBEq, Nat.reduceEqDiff, Nat.reduceLT, Nat.reduceLeDiff, Nat.zero_le, nI_add, nI_mul, nI_cl, qin_eq, qofI, qlg_0, qlg_s, qls_i0, qls_r0, qls_l0, qls_1, qls_2, qkl_i, qkl_r, qkl_l, qkl_n, qIsI_i, qIsL_l, qIsR_r, qint_i, qil_i, qil_r, qil_l, qf4_0, qf4_1, qf4_2, qf4_3, qf2_0, qf2_1, qcs_n, qcs_i, qcs_r, qcs_l, qst_n, qst_c, qJ_0, qJ_st, qJ_go, qfl_I, qfl_Z, qfl_L, qfl_R, qrI_i, qrL_l, qrV_v, qRcv_0, qRcv_s, eq_self, true_and, and_true, true_or, or_true, false_and, and_false, false_or, or_false, ite_true, if_true, if_false, Bool.true_or, Bool.false_or, Bool.or_false, beq_self_eq_true, Bool.false_eq_true, bX12_laysFits_0, bX12_laysFits_16, bX12_laysFits_43, bX12_laysFits_80, bX12_laysFits_114, bX12_laysFits_115, bX12_laysFits_125, kX12_laysFits_0, kX12_laysFits_16, kX12_laysFits_43, kX12_laysFits_80, kX12_laysFits_114, kX12_laysFits_115, kX12_laysFits_125, qK_139, qR_139_0, qK_140, qR_139_1, qK_141, qR_139_5, qK_142, qR_139_6, qK_143, qR_139_7, qK_144, qR_139_8, qK_145, qR_139_9, qK_146, qR_139_21, qK_147, qR_139_25, qK_148, qR_139_30, qK_149, qR_139_31, qK_150, qR_139_33, qK_151, qR_139_34, qK_152, qR_139_35, qK_153, qR_139_36, qK_154, qR_139_39, qK_155, qR_139_40, qK_156, qR_139_41, qK_157]
    simp (disch := omega) only [nI_leI, nI_ltI, nI_eq, nI_cl, qin_eq, nI_add, nI_mul, qb_z, qb_t, qb_f, nI_ne0', Nat.reduceAdd, Bool.false_eq_true, if_false, if_true, true_and, and_true, Nat.reduceEqDiff, not_true_eq_false, not_false_eq_true, false_implies, true_implies, ite_true, ite_false]
    refine ⟨fun h1 => ?_, fun h1 => ?_⟩
    · have ec : c = 30 := by omega
      subst ec
      refine qBI.fn (m_boyRow σ1 _) (by decide) ?_
      simp only [nI_add, nI_mul]
      simp (disch := omega) only [nI_leI, nI_ltI, nI_eq, nI_cl, qin_eq, nI_add, nI_mul, qb_z, qb_t, qb_f, nI_ne0', Nat.reduceAdd, Bool.false_eq_true, if_false, if_true, true_and, and_true, Nat.reduceEqDiff, not_true_eq_false, not_false_eq_true, false_implies, true_implies, ite_true, ite_false]
      refine ⟨⟨fun p p1 p2 => ?_, ?_⟩, fun a j hp => ?_, f1.2⟩
      · obtain ⟨q1, q2⟩ := r1 p p1 p2
        refine ⟨?_, fun j hj => ?_⟩
        · rw [qwi_1, if_neg (by omega)]; exact q1
        · rw [qwi_1, if_neg (by omega)]; exact q2 j hj
      · rw [qwi_1, if_neg (by omega)]; exact m1
      · rw [qwi_1]
        by_cases e : a = 140 ∧ j = 8 + 5 * b + 1
        · rw [if_pos e, e.1, e.2, ← zMb1 h hb]
        · rw [if_neg e]
          exact f1.1 a j (fun hh => hh.elim hp e)
    · have hc1 : c < 30 := by omega
      have w2 := zu2_W (b := b) (p := c + 1) hw (by omega) (by omega)
      have e00' : zu C 2 b (c + 1) 0 0 = C 0 0 := zu_ne (by omega)
      have e05' : zu C 2 b (c + 1) 0 5 = C 0 5 := zu_ne (by omega)
      refine qBI.fn (m_boyRow σ1 _) (by decide) ?_
      simp only [nI_add, nI_mul]
      simp (disch := omega) only [nI_leI, nI_ltI, nI_eq, nI_cl, qin_eq, nI_add, nI_mul, qb_z, qb_t, qb_f, nI_ne0', Nat.reduceAdd, Bool.false_eq_true, if_false, if_true, true_and, and_true, Nat.reduceEqDiff, not_true_eq_false, not_false_eq_true, false_implies, true_implies, ite_true, ite_false]
      have a2 : zM (qwi σ1 140 (8 + 5 * b + 1) (nI (c + 1))) 0 (zu C 2 b (c + 1)) := by
        have := zM_wb a1 w1 (f := 1) (v := c + 1) (by omega : b < zu C 2 b x 0 0) (by decide)
        rw [show 1 + 1 = 2 from rfl, zu_zu] at this
        exact this
      refine qBV.of (m_laysUp a2 w2 (by omega)) (by decide) (fun σ3 h3 => ?_)
      obtain ⟨u3, f3⟩ := h3
      have a3 : zM σ3 0 (zu C 2 b (c + 1)) := a2.keep w2 fun j hj => f3.1 _ _ (by unfold zPu; omega)
      have f4 : zF (fun a j => zPf a j ∨ (a = 140 ∧ j = 8 + 5 * b + 1)) σ σ3 := (f1.tr (zF.wi (Or.inr ⟨rfl, rfl⟩))).tr (f3.wk fun a j hp => by unfold zPu at hp; unfold zPf; omega)
      have r3 : ∀ p, 1 ≤ p → p ≤ c → σ3.1 150 p = qb (zfit C T b t n p) ∧ ∀ j, j < C 0 0 → σ3.1 149 (8 * p + j) = nI (zupb (zu C 2 b p) j) := by
        intro p p1 p2
        obtain ⟨q1, q2⟩ := r1 p p1 p2
        refine ⟨?_, fun j hj => ?_⟩
        · rw [f3.1 _ _ (by unfold zPu; omega), qwi_1, if_neg (by omega)]; exact q1
        · rw [f3.1 _ _ (by unfold zPu; omega), qwi_1, if_neg (by omega)]; exact q2 j hj
      have m3 : σ3.1 139 32 = nI (zcount (fun i => zfit C T b t n (i + 1)) c) := by
        rw [f3.1 _ _ (by unfold zPu; omega), qwi_1, if_neg (by omega)]; exact m1
      rw [e00'] at u3
      have key2 := qdown (n := C 0 0) (P := fun k => ∀ (σ4 : qSg), zM σ4 0 (zu C 2 b (c + 1)) → zF (fun a j => zPf a j ∨ (a = 140 ∧ j = 8 + 5 * b + 1)) σ σ4 → (∀ p, 1 ≤ p → p ≤ c → σ4.1 150 p = qb (zfit C T b t n p) ∧ ∀ j, j < C 0 0 → σ4.1 149 (8 * p + j) = nI (zupb (zu C 2 b p) j)) → σ4.1 139 32 = nI (zcount (fun i => zfit C T b t n (i + 1)) c) →
          (∀ j, j < C 0 0 → σ4.1 148 j = nI (zupb (zu C 2 b (c + 1)) j)) → (∀ j, j < k → σ4.1 149 (8 * (c + 1) + j) = nI (zupb (zu C 2 b (c + 1)) j)) →
          qV 335 8 (.inr (.inr fun σ' => zFits C T b t n σ' ∧ zF zPf σ σ')) 43 [some (qr 139), some (qi (nI b)), some (qi (nI t)), some (qi (nI n)), some (qi (nI (C 2 b))), some (qi (nI (c + 1))), some (qi (nI k))] [] σ4) (fun k hk ih2 => ?_)
      · exact key2 0 (Nat.zero_le _) σ3 a3 f4 r3 m3 u3 (fun j hj => absurd hj (by omega))
      · intro σ4 a4 f4 r4 m4 u4 s4
        refine qV.go 30 [16, 43] ok_335 ?_
        simp only [qW_nop, qW_iconst, qW_bipush, qW_iloadn, qW_iload, qW_aloadn, qW_istore, qW_iinc, qW_iadd, qW_imul, qW_dup, qW_ifeq, qW_icge, qW_icgt, qW_goto, qW_getf, qW_iald, qW_bald, qW_iast, qW_bast, qW_vret, qW_cs1_0, qW_cv1_2, qW_cv3_0, qW_cv4_0, qW_putf0, Nat.reduceAdd, Nat.reduceMul, Nat.reduceBEq, Nat.reduceEqDiff, Nat.reduceLT, Nat.reduceLeDiff, Nat.zero_le, nI_add, nI_mul, nI_cl, qin_eq, qofI, qlg_0, qlg_s, qls_i0, qls_r0, qls_l0, qls_1, qls_2, qkl_i, qkl_r, qkl_l, qkl_n, qIsI_i, qIsL_l, qIsR_r, qint_i, qil_i, qil_r, qil_l, qf4_0, qf4_1, qf4_2, qf4_3, qf2_0, qf2_1, qcs_n, qcs_i, qcs_r, qcs_l, qst_n, qst_c, qJ_0, qJ_st, qJ_go, qfl_I, qfl_Z, qfl_L, qfl_R, qrI_i, qrL_l, qrV_v, qRcv_0, qRcv_s, eq_self, true_and, and_true, true_or, or_true, false_and, and_false, false_or, or_false, ite_true, if_true, if_false, Bool.true_or, Bool.false_or, Bool.or_false, beq_self_eq_true, Bool.false_eq_true, bX12_laysFits_0, bX12_laysFits_16, bX12_laysFits_43, bX12_laysFits_80, bX12_laysFits_114, bX12_laysFits_115, bX12_laysFits_125, kX12_laysFits_0, kX12_laysFits_16, kX12_laysFits_43, kX12_laysFits_80, kX12_laysFits_114, kX12_laysFits_115, kX12_laysFits_125, qK_139, qR_139_0, qK_140, qR_139_1, qK_141, qR_139_5, qK_142, qR_139_6, qK_143, qR_139_7, qK_144, qR_139_8, qK_145, qR_139_9, qK_146, qR_139_21, qK_147, qR_139_25, qK_148, qR_139_30, qK_149, qR_139_31, qK_150, qR_139_33, qK_151, qR_139_34, qK_152, qR_139_35, qK_153, qR_139_36, qK_154, qR_139_39, qK_155, qR_139_40, qK_156, qR_139_41, qK_157]
        rw [zM_s a4 0 (by decide), e00']
        simp (disch := omega) only [nI_leI, nI_ltI, nI_eq, nI_cl, qin_eq, nI_add, nI_mul, qb_z, qb_t, qb_f, nI_ne0', Nat.reduceAdd, Bool.false_eq_true, if_false, if_true, true_and, and_true, Nat.reduceEqDiff, not_true_eq_false, not_false_eq_true, false_implies, true_implies, ite_true, ite_false]
        refine ⟨fun h5 => ?_, fun h5 => ?_⟩
        · have hu := fun j => (zupb_spec w2 (by omega) j).1
          have ht4 : zMT σ4 T := by
            intro t1 ht1
            obtain ⟨q1, q2, q3⟩ := ht t1 ht1
            refine ⟨?_, ?_, fun n1 j e1 e2 => ?_⟩
            · rw [f4.1 _ _ (by unfold zPf; omega)]; exact q1
            · rw [f4.1 _ _ (by unfold zPf; omega)]; exact q2
            · rw [f4.2]; exact q3 n1 j e1 e2
          refine qBI.fn (m_isSeen ht4 (b := b) (p := c + 1) wb ht' hn (by omega) hTm hm2 hm60 hv (fun j hj => s4 j (by omega)) hu) (by decide) ?_
          have ez : (qwi σ4 150 (c + 1) (qb (zfit C T b t n (c + 1)))).1 150 (c + 1) = qb (zfit C T b t n (c + 1)) := by rw [qwi_1, if_pos (by simp)]
          have em : (qwi σ4 150 (c + 1) (qb (zfit C T b t n (c + 1)))).1 139 32 = nI (zcount (fun i => zfit C T b t n (i + 1)) c) := by rw [qwi_1, if_neg (by omega)]; exact m4
          rw [ez, em]
          have fin : ∀ v : Nat, v = (if zfit C T b t n (c + 1) = true then 1 else 0) → qV 335 8 (.inr (.inr fun σ' => zFits C T b t n σ' ∧ zF zPf σ σ')) 16 [some (qr 139), some (qi (nI b)), some (qi (nI t)), some (qi (nI n)), some (qi (nI (C 2 b))), some (qi (nI (c + 1 + 1))), some (qi (nI k))] [] (qwi (qwi σ4 150 (c + 1) (qb (zfit C T b t n (c + 1)))) 139 32 (nI (zcount (fun i => zfit C T b t n (i + 1)) c + v))) := by
            intro v hv9
            refine ih hc1 _ _ (c + 1) (by omega) (by omega) (zM_wi (zM_wi a4 (by omega) w2) (by omega) w2) ((f4.tr (zF.wi (by unfold zPf; omega))).tr (zF.wi (by unfold zPf; omega))) (fun p p1 p2 => ?_) ?_
            · refine ⟨?_, fun j hj => ?_⟩
              · rw [qwi_1, if_neg (by omega), qwi_1]
                by_cases e : p = c + 1
                · subst e; rw [if_pos (by simp)]
                · rw [if_neg (by omega)]; exact (r4 p p1 (by omega)).1
              · rw [qwi_1, if_neg (by omega), qwi_1, if_neg (by omega)]
                by_cases e : p = c + 1
                · subst e; exact s4 j (by omega)
                · exact (r4 p p1 (by omega)).2 j hj
            · rw [qwi_1, if_pos (by simp), hv9]
              rfl
          have h01 := qb_01 (zfit C T b t n (c + 1))
          simp (disch := omega) only [nI_leI, nI_ltI, nI_eq, nI_cl, qin_eq, nI_add, nI_mul, qb_z, qb_t, qb_f, nI_ne0', Nat.reduceAdd, Bool.false_eq_true, if_false, if_true, true_and, and_true, Nat.reduceEqDiff, not_true_eq_false, not_false_eq_true, false_implies, true_implies, ite_true, ite_false, Bool.not_eq_false, Bool.not_eq_true]
          refine ⟨h01, fun h8 => ?_, fun h8 => ?_⟩
          · exact fin 0 (by rw [h8]; rfl)
          · exact fin 1 (by rw [h8]; rfl)
        · have hk1 : k < C 0 0 := by omega
          rw [u4 k hk1]
          simp (disch := omega) only [nI_leI, nI_ltI, nI_eq, nI_cl, qin_eq, nI_add, nI_mul, qb_z, qb_t, qb_f, nI_ne0', Nat.reduceAdd, Bool.false_eq_true, if_false, if_true, true_and, and_true, Nat.reduceEqDiff, not_true_eq_false, not_false_eq_true, false_implies, true_implies, ite_true, ite_false]
          refine ih2 hk1 _ (zM_wi a4 (by omega) w2) (f4.tr (zF.wi (by unfold zPf; omega))) (fun p p1 p2 => ?_) ?_ (fun j hj => ?_) (fun j hj => ?_)
          · obtain ⟨q1, q2⟩ := r4 p p1 p2
            refine ⟨?_, fun j hj => ?_⟩
            · rw [qwi_1, if_neg (by omega)]; exact q1
            · rw [qwi_1, if_neg (by omega)]; exact q2 j hj
          · rw [qwi_1, if_neg (by omega)]; exact m4
          · rw [qwi_1, if_neg (by omega)]; exact u4 j hj
          · rw [qwi_1]
            by_cases e : j = k
            · subst e; rw [if_pos (by omega)]
            · rw [if_neg (by omega)]; exact s4 j (by omega)
