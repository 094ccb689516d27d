/-- a tray laid -/
def zTlay (T : zT) (t s n : Nat) : zT := (fun a => if a = t then s else T.1 a, fun a => if a = t then some n else T.2.1 a, fun a i => if a = t then lN 0 else T.2.2 a i)
def ztok (t s n : Int32) : Bool := zrg t 4 && zih s 0 3 && zih n 0 60
set_option maxRecDepth 20000 in
theorem m_tray {σ : qSg} {T : zT} (h : zMT σ T) (hT : zTW T) (t s n : Int32) : qCI 2 220 [qr 139, qi t, qi s, qi n] σ (fun r σ' => r = qb (ztok t s n) ∧ ∃ σ1, σ' = qwi σ1 139 2 (nI (if ztok t s n then 0 else 1)) ∧ zMT σ1 (if ztok t s n then zTlay T t.toInt.toNat s.toInt.toNat n.toInt.toNat else T) ∧ zG (fun a _ => a = 142 ∨ a = 143) (fun a _ => a = 144) σ σ1) := by
  refine qCI.of [some (qr 139), some (qi t), some (qi s), some (qi n), none] ok_220 (Nat.le_of_ble_eq_true rfl) rfl ?_
  have bad : ztok t s n = false → qV 220 2 (.inl fun r σ' => r = qb (ztok t s n) ∧ ∃ σ1, σ' = qwi σ1 139 2 (nI (if ztok t s n then 0 else 1)) ∧ zMT σ1 (if ztok t s n then zTlay T t.toInt.toNat s.toInt.toNat n.toInt.toNat else T) ∧ zG (fun a _ => a = 142 ∨ a = 143) (fun a _ => a = 144) σ σ1) 26 [some (qr 139), some (qi t), some (qi s), some (qi n), none] [] σ := by
    intro e
    refine qV.go 30 [9999] ok_220 ?_
    simp only [qW_nop, qW_iconst, qW_bipush, qW_lconst, qW_iloadn, qW_iload, qW_aloadn, qW_istore, qW_iinc, qW_iadd, qW_imul, qW_ifeq, qW_iflt, qW_icge, qW_icgt, qW_icle, qW_goto, qW_getf, qW_iast, qW_last, qW_cs1_0, qW_cv2_0, qW_iret1, Nat.reduceAdd, Nat.reduceMul, Nat.reduceBEq, Nat.reduceEqDiff, Nat.reduceLT, Nat.reduceLeDiff, Nat.zero_le, nI_add, nI_mul, nI_cl, qin_eq, qofI, qlg_0, qlg_s, qls_i0, qls_r0, qls_l0, qls_1, qls_2, qkl_i, qkl_r, qkl_l, qkl_n, qIsI_i, qIsL_l, qIsR_r, qint_i, qil_i, qil_r, qil_l, qf4_0, qf4_1, qf4_2, qf4_3, qf2_0, qf2_1, qcs_n, qcs_i, qcs_r, qcs_l, qst_n, qst_c, qJ_0, qJ_st, qJ_go, qfl_I, qfl_Z, qfl_L, qfl_R, qrI_i, qrL_l, qrV_v, qRcv_0, qRcv_s, eq_self, true_and, and_true, true_or, or_true, false_and, and_false, false_or, or_false, ite_true, if_true, if_false, Bool.true_or, Bool.false_or, Bool.or_false, beq_self_eq_true, Bool.false_eq_true, bX12_tray_0, bX12_tray_26, bX12_tray_32, bX12_tray_49, bX12_tray_74, kX12_tray_0, kX12_tray_26, kX12_tray_32, kX12_tray_49, kX12_tray_74, qK_139, qR_139_0, qK_140, qR_139_1, qK_141, qR_139_5, qK_142, qR_139_6, qK_143, qR_139_7, qK_144, qR_139_8, qK_145, qR_139_9, qK_146, qR_139_21, qK_147, qR_139_25, qK_148, qR_139_30, qK_149, qR_139_31, qK_150, qR_139_33, qK_151, qR_139_34, qK_152, qR_139_35, qK_153, qR_139_36, qK_154, qR_139_39, qK_155, qR_139_40, qK_156, qR_139_41, qK_157]
    refine qBI.of (m_is _ 1 (by decide)) (by decide) (fun r σ4 h4 => ?_)
    obtain ⟨rfl, rfl⟩ := h4
    rw [e]
    exact ⟨Or.inl rfl, rfl, σ, rfl, h, zG.rf⟩
  refine qV.go 30 [26, 32] ok_220 ?_
  simp only [qW_nop, qW_iconst, qW_bipush, qW_lconst, qW_iloadn, qW_iload, qW_aloadn, qW_istore, qW_iinc, qW_iadd, qW_imul, qW_ifeq, qW_iflt, qW_icge, qW_icgt, qW_icle, qW_goto, qW_getf, qW_iast, qW_last, qW_cs1_0, qW_cv2_0, qW_iret1, Nat.reduceAdd, Nat.reduceMul, Nat.reduceBEq, Nat.reduceEqDiff, Nat.reduceLT, Nat.reduceLeDiff, Nat.zero_le, nI_add, nI_mul, nI_cl, qin_eq, qofI, qlg_0, qlg_s, qls_i0, qls_r0, qls_l0, qls_1, qls_2, qkl_i, qkl_r, qkl_l, qkl_n, qIsI_i, qIsL_l, qIsR_r, qint_i, qil_i, qil_r, qil_l, qf4_0, qf4_1, qf4_2, qf4_3, qf2_0, qf2_1, qcs_n, qcs_i, qcs_r, qcs_l, qst_n, qst_c, qJ_0, qJ_st, qJ_go, qfl_I, qfl_Z, qfl_L, qfl_R, qrI_i, qrL_l, qrV_v, qRcv_0, qRcv_s, eq_self, true_and, and_true, true_or, or_true, false_and, and_false, false_or, or_false, ite_true, if_true, if_false, Bool.true_or, Bool.false_or, Bool.or_false, beq_self_eq_true, Bool.false_eq_true, bX12_tray_0, bX12_tray_26, bX12_tray_32, bX12_tray_49, bX12_tray_74, kX12_tray_0, kX12_tray_26, kX12_tray_32, kX12_tray_49, kX12_tray_74, qK_139, qR_139_0, qK_140, qR_139_1, qK_141, qR_139_5, qK_142, qR_139_6, qK_143, qR_139_7, qK_144, qR_139_8, qK_145, qR_139_9, qK_146, qR_139_21, qK_147, qR_139_25, qK_148, qR_139_30, qK_149, qR_139_31, qK_150, qR_139_33, qK_151, qR_139_34, qK_152, qR_139_35, qK_153, qR_139_36, qK_154, qR_139_39, qK_155, qR_139_40, qK_156, qR_139_41, qK_157]
  refine qBI.fn (m_isTray σ t) (by decide) ?_
  have es : zih s 0 3 = (decide ((0 : Nat) ≤ s.toInt) && decide (s.toInt ≤ (3 : Nat))) := rfl
  have en : zih n 0 60 = (decide ((0 : Nat) ≤ n.toInt) && decide (n.toInt ≤ (60 : Nat))) := rfl
  cases et : zrg t 4 with
  | false =>
    have e : ztok t s n = false := by simp [ztok, et]
    exact ⟨fun _ => bad e, fun h1 => absurd nI_0 h1⟩
  | true =>
    refine ⟨fun h1 => absurd h1 (by decide), fun _ => ⟨fun h1 => bad ?_, fun h1 => ⟨fun h2 => bad ?_, fun h2 => ⟨fun h3 => bad ?_, fun h3 => ⟨fun h4 => ?_, fun h4 => bad ?_⟩⟩⟩⟩⟩
    · rw [qlt0] at h1
      simp only [ztok, et, es]
      rw [decide_eq_false (p := ((0 : Nat) : Int) ≤ s.toInt) (by omega)]
      rfl
    · rw [qlt, nI_t (by decide)] at h2
      simp only [ztok, et, es]
      rw [decide_eq_false (p := s.toInt ≤ ((3 : Nat) : Int)) (by omega), Bool.and_false]
      rfl
    · rw [qlt0] at h3
      simp only [ztok, en]
      rw [decide_eq_false (p := ((0 : Nat) : Int) ≤ n.toInt) (by omega), Bool.false_and, Bool.and_false]
    · rw [qlt0] at h1 h3
      rw [qlt, nI_t (by decide)] at h2
      rw [qle, nI_t (by decide)] at h4
      have e : ztok t s n = true := by
        simp only [ztok, et, es, en]
        rw [decide_eq_true (p := s.toInt ≤ ((3 : Nat) : Int)) (by omega), decide_eq_true (p := n.toInt ≤ ((60 : Nat) : Int)) (by omega), decide_eq_true (p := ((0 : Nat) : Int) ≤ n.toInt) (by omega), decide_eq_true (p := ((0 : Nat) : Int) ≤ s.toInt) (by omega)]
        rfl
      rw [e]
      simp only [if_true]
      obtain ⟨a, ha, rfl⟩ := zrg_nI et
      obtain ⟨b, -, hb, rfl⟩ := zih_nI (x := s) (lo := 0) (hi := 3) (by rw [es]; simp; omega)
      obtain ⟨c, -, hc, rfl⟩ := zih_nI (x := n) (lo := 0) (hi := 60) (by rw [en]; simp; omega)
      rw [nI_t (by omega), nI_t (by omega), nI_t (by omega), Int.toNat_natCast, Int.toNat_natCast, Int.toNat_natCast]
      refine qV.go 30 [49] ok_220 ?_
      simp only [qW_nop, qW_iconst, qW_bipush, qW_lconst, qW_iloadn, qW_iload, qW_aloadn, qW_istore, qW_iinc, qW_iadd, qW_imul, qW_ifeq, qW_iflt, qW_icge, qW_icgt, qW_icle, qW_goto, qW_getf, qW_iast, qW_last, qW_cs1_0, qW_cv2_0, qW_iret1, Nat.reduceAdd, Nat.reduceMul, Nat.reduceBEq, Nat.reduceEqDiff, Nat.reduceLT, Nat.reduceLeDiff, Nat.zero_le, nI_add, nI_mul, nI_cl, qin_eq, qofI, qlg_0, qlg_s, qls_i0, qls_r0, qls_l0, qls_1, qls_2, qkl_i, qkl_r, qkl_l, qkl_n, qIsI_i, qIsL_l, qIsR_r, qint_i, qil_i, qil_r, qil_l, qf4_0, qf4_1, qf4_2, qf4_3, qf2_0, qf2_1, qcs_n, qcs_i, qcs_r, qcs_l, qst_n, qst_c, qJ_0, qJ_st, qJ_go, qfl_I, qfl_Z, qfl_L, qfl_R, qrI_i, qrL_l, qrV_v, qRcv_0, qRcv_s, eq_self, true_and, and_true, true_or, or_true, false_and, and_false, false_or, or_false, ite_true, if_true, if_false, Bool.true_or, Bool.false_or, Bool.or_false, beq_self_eq_true, Bool.false_eq_true, bX12_tray_0, bX12_tray_26, bX12_tray_32, bX12_tray_49, bX12_tray_74, kX12_tray_0, kX12_tray_26, kX12_tray_32, kX12_tray_49, kX12_tray_74, qK_139, qR_139_0, qK_140, qR_139_1, qK_141, qR_139_5, qK_142, qR_139_6, qK_143, qR_139_7, qK_144, qR_139_8, qK_145, qR_139_9, qK_146, qR_139_21, qK_147, qR_139_25, qK_148, qR_139_30, qK_149, qR_139_31, qK_150, qR_139_33, qK_151, qR_139_34, qK_152, qR_139_35, qK_153, qR_139_36, qK_154, qR_139_39, qK_155, qR_139_40, qK_156, qR_139_41, qK_157]
      simp (disch := omega) only [nI_leI, nI_ltI, nI_eq, nI_cl, qin_eq, nI_add, nI_mul, qb_z, qb_t, qb_f, nI_ne0', Nat.reduceAdd, Bool.false_eq_true, if_false, if_true, true_and, and_true, Nat.reduceEqDiff, not_true_eq_false, not_false_eq_true, false_implies, true_implies, ite_true, ite_false]
      have f0 : zG (fun a _ => a = 142 ∨ a = 143) (fun a _ => a = 144) σ (qwi (qwi σ 142 a (nI b)) 143 a (nI c)) := (zG.wi (Or.inl rfl)).tr (zG.wi (Or.inr rfl))
      refine qdown (n := c) (P := fun j => ∀ σ1 : qSg, σ1.1 = (qwi (qwi σ 142 a (nI b)) 143 a (nI c)).1 → zG (fun a _ => a = 142 ∨ a = 143) (fun a _ => a = 144) σ σ1 → (∀ q, ¬ (60 * a ≤ q ∧ q < 60 * a + j) → σ1.2 144 q = σ.2 144 q) → (∀ i, i < j → σ1.2 144 (60 * a + i) = lN 0) → qV 220 2 (.inl fun r σ' => r = nI 1 ∧ ∃ σ1, σ' = qwi σ1 139 2 (nI 0) ∧ zMT σ1 (zTlay T a b c) ∧ zG (fun a _ => a = 142 ∨ a = 143) (fun a _ => a = 144) σ σ1) 49 [some (qr 139), some (qi (nI a)), some (qi (nI b)), some (qi (nI c)), some (qi (nI j))] [] σ1) (fun j hj ih => ?_) 0 (Nat.zero_le _) _ rfl f0 (fun _ _ => rfl) (fun i hi => absurd hi (by omega))
      intro σ1 g1 g2 g3 g4
      refine qV.go 30 [49] ok_220 ?_
      simp only [qW_nop, qW_iconst, qW_bipush, qW_lconst, qW_iloadn, qW_iload, qW_aloadn, qW_istore, qW_iinc, qW_iadd, qW_imul, qW_ifeq, qW_iflt, qW_icge, qW_icgt, qW_icle, qW_goto, qW_getf, qW_iast, qW_last, qW_cs1_0, qW_cv2_0, qW_iret1, Nat.reduceAdd, Nat.reduceMul, Nat.reduceBEq, Nat.reduceEqDiff, Nat.reduceLT, Nat.reduceLeDiff, Nat.zero_le, nI_add, nI_mul, nI_cl, qin_eq, qofI, qlg_0, qlg_s, qls_i0, qls_r0, qls_l0, qls_1, qls_2, qkl_i, qkl_r, qkl_l, qkl_n, qIsI_i, qIsL_l, qIsR_r, qint_i, qil_i, qil_r, qil_l, qf4_0, qf4_1, qf4_2, qf4_3, qf2_0, qf2_1, qcs_n, qcs_i, qcs_r, qcs_l, qst_n, qst_c, qJ_0, qJ_st, qJ_go, qfl_I, qfl_Z, qfl_L, qfl_R, qrI_i, qrL_l, qrV_v, qRcv_0, qRcv_s, eq_self, true_and, and_true, true_or, or_true, false_and, and_false, false_or, or_false, ite_true, if_true, if_false, Bool.true_or, Bool.false_or, Bool.or_false, beq_self_eq_true, Bool.false_eq_true, bX12_tray_0, bX12_tray_26, bX12_tray_32, bX12_tray_49, bX12_tray_74, kX12_tray_0, kX12_tray_26, kX12_tray_32, kX12_tray_49, kX12_tray_74, qK_139, qR_139_0, qK_140, qR_139_1, qK_141, qR_139_5, qK_142, qR_139_6, qK_143, qR_139_7, qK_144, qR_139_8, qK_145, qR_139_9, qK_146, qR_139_21, qK_147, qR_139_25, qK_148, qR_139_30, qK_149, qR_139_31, qK_150, qR_139_33, qK_151, qR_139_34, qK_152, qR_139_35, qK_153, qR_139_36, qK_154, qR_139_39, qK_155, qR_139_40, qK_156, qR_139_41, qK_157]
      simp (disch := omega) only [nI_leI, nI_ltI, nI_eq, nI_cl, qin_eq, nI_add, nI_mul, qb_z, qb_t, qb_f, nI_ne0', Nat.reduceAdd, Bool.false_eq_true, if_false, if_true, true_and, and_true, Nat.reduceEqDiff, not_true_eq_false, not_false_eq_true, false_implies, true_implies, ite_true, ite_false]
      refine ⟨fun h5 => ?_, fun h5 => ?_⟩
      · refine qBI.of (m_is _ 0 (by decide)) (by decide) (fun r σ4 h4 => ?_)
        obtain ⟨rfl, rfl⟩ := h4
        refine ⟨Or.inr rfl, rfl, σ1, rfl, fun x hx => ?_, g2⟩
        obtain ⟨t1, t2, t3⟩ := h x hx
        simp only [zTlay]
        rw [g1, qwi_1, qwi_1, qwi_1, qwi_1]
        by_cases ex : x = a
        · subst ex
          refine ⟨by simp, by simp [zoI], fun m i hm hi => ?_⟩
          rw [if_pos rfl] at hm ⊢
          cases hm
          exact g4 i (by omega)
        · refine ⟨by rw [if_neg (by omega), if_neg (by omega), if_neg ex]; exact t1, by rw [if_neg (by omega), if_neg ex]; rw [if_neg (by omega)]; exact t2, fun m i hm hi => ?_⟩
          rw [if_neg ex] at hm ⊢
          have b1 := (hT x hx).2 m hm
          rw [g3 _ (by omega)]
          exact t3 m i hm hi
      · refine ⟨qin_n (by omega) (by decide), ih (by omega) _ g1 (g2.tr (zG.wl rfl)) (fun q hq => ?_) (fun i hi => ?_)⟩
        · rw [qwl_2, if_neg (by omega)]
          exact g3 q (by omega)
        · rw [qwl_2]
          by_cases ei : i = j
          · subst ei
            rw [if_pos ⟨rfl, rfl⟩]
          · rw [if_neg (by omega)]
            exact g4 i (by omega)
    · rw [qle, nI_t (by decide)] at h4
      simp only [ztok, en]
      rw [decide_eq_false (p := n.toInt ≤ ((60 : Nat) : Int)) (by omega), Bool.and_false, Bool.and_false]
