/-! the reference: words -/
def zkI (k : Nat) : Int32 := if k < 22 then nI k else iI (-1)
def zks : Nat → Nat
  | 0 => 1
  | n + 1 => zks n + (zkw.getD n []).length + 1
theorem zks_22 : zks 22 = qKEYb.length := by decide +kernel
theorem zks_c : ∀ n, n < 22 → ∀ j, j < (zkw.getD n []).length → (qKEYb.getD (zks n + j) 0 &&& 255) = nI ((zkw.getD n []).getD j 0) ∧ (zkw.getD n []).getD j 0 < 128 ∧ (zkw.getD n []).getD j 0 ≠ 32 := by decide +kernel
theorem zks_b : ∀ n, n < 22 → (qKEYb.getD (zks n + (zkw.getD n []).length) 0 &&& 255) = nI 32 ∧ zks n + (zkw.getD n []).length < qKEYb.length ∧ (zkw.getD n []).length < 20 := by decide +kernel
theorem zkeys_len : qKEYb.length = 112 := by decide +kernel
theorem tkW_eq (B : Nat → Nat) (p : Nat) (w : List Nat) : w = tkW B p ↔ w.length = tkE B p - tkS B p ∧ ∀ x, x < w.length → w.getD x 0 = B (tkS B p + x) := by
  constructor
  · intro h
    refine ⟨by rw [h, tkW_len], fun x hx => ?_⟩
    subst h
    rw [tkW_len] at hx
    unfold tkW
    rw [List.getD_eq_getElem?_getD, List.getElem?_map, List.getElem?_range hx]
    rfl
  · intro ⟨h1, h2⟩
    refine List.ext_getElem (by rw [h1, tkW_len]) (fun x hx hx' => ?_)
    have := h2 x hx
    rw [List.getD_eq_getElem?_getD, List.getElem?_eq_getElem hx] at this
    have e2 : (tkW B p)[x] = B (tkS B p + x) := by
      have h3 : (tkW B p)[x]? = some (B (tkS B p + x)) := by
        unfold tkW
        rw [List.getElem?_map, List.getElem?_range (by omega)]
        rfl
      rw [List.getElem?_eq_getElem hx'] at h3
      exact Option.some.inj h3
    rw [e2]
    exact this
set_option maxRecDepth 20000 in
theorem m_inWords {σ : qSg} {B : Nat → Nat} {n p : Nat} (hB : zBW B n) (hp : p ≤ n) (h : zTk σ B n p) : qFI 5 233 [qr 139, qr 1000] σ (zkI (tkY B p)) := by
  have h900 := hB.1
  have hs := tkE_spec hB hp
  have hk5 := tkK_lt B p
  obtain ⟨h0, h1, h2, h3, h4⟩ := h
  refine qCI.of [some (qr 139), some (qr 1000), none, none, none, none, none] ok_233 (Nat.le_of_ble_eq_true rfl) rfl ?_
  refine qV.go 30 [14, 25, 68, 115] ok_233 ?_
  simp only [qW_nop, qW_iconst, qW_iconstm, qW_bipush, qW_iloadn, qW_iload, qW_aloadn, qW_istoren, qW_istore, qW_iinc, qW_iadd, qW_isub, qW_ifeq, qW_iceq, qW_icne, qW_icge, qW_goto, qW_getf, qW_cv1_0, qW_cv2_0, qW_iret0, Nat.reduceAdd, Nat.reduceMul, Nat.reduceBEq, Nat.reduceEqDiff, Nat.reduceLT, Nat.reduceLeDiff, Nat.zero_le, nI_add, nI_mul, nI_cl, qin_eq, qofI, qlg_0, qlg_s, qls_i0, qls_r0, qls_l0, qls_1, qls_2, qkl_i, qkl_r, qkl_l, qkl_n, qIsI_i, qIsL_l, qIsR_r, qint_i, qil_i, qil_r, qil_l, qf4_0, qf4_1, qf4_2, qf4_3, qf2_0, qf2_1, qcs_n, qcs_i, qcs_r, qcs_l, qst_n, qst_c, qJ_0, qJ_st, qJ_go, qfl_I, qfl_Z, qfl_L, qfl_R, qrI_i, qrL_l, qrV_v, qRcv_0, qRcv_s, eq_self, true_and, and_true, true_or, or_true, false_and, and_false, false_or, or_false, ite_true, if_true, if_false, Bool.true_or, Bool.false_or, Bool.or_false, beq_self_eq_true, Bool.false_eq_true, bX12_inWords_0, bX12_inWords_10, bX12_inWords_14, bX12_inWords_25, bX12_inWords_42, bX12_inWords_62, bX12_inWords_63, bX12_inWords_68, bX12_inWords_106, bX12_inWords_107, bX12_inWords_115, bX12_inWords_122, bX12_inWords_133, kX12_inWords_0, kX12_inWords_10, kX12_inWords_14, kX12_inWords_25, kX12_inWords_42, kX12_inWords_62, kX12_inWords_63, kX12_inWords_68, kX12_inWords_106, kX12_inWords_107, kX12_inWords_115, kX12_inWords_122, kX12_inWords_133, qK_139, qR_139_0, qK_140, qR_139_1, qK_141, qR_139_5, qK_142, qR_139_6, qK_143, qR_139_7, qK_144, qR_139_8, qK_145, qR_139_9, qK_146, qR_139_21, qK_147, qR_139_25, qK_148, qR_139_30, qK_149, qR_139_31, qK_150, qR_139_33, qK_151, qR_139_34, qK_152, qR_139_35, qK_153, qR_139_36, qK_154, qR_139_39, qK_155, qR_139_40, qK_156, qR_139_41, qK_157]
  rw [h1]
  simp (disch := omega) only [nI_leI, nI_ltI, nI_eq, nI_cl, qin_eq, nI_add, nI_mul, qb_z, qb_t, qb_f, nI_ne0', Nat.reduceAdd, Bool.false_eq_true, if_false, if_true, true_and, and_true, Nat.reduceEqDiff, not_true_eq_false, not_false_eq_true, false_implies, true_implies, ite_true, ite_false]
  refine ⟨fun e2 => ?_, fun e2 => ?_⟩
  · -- a word
    have eY : tkY B p = zix (tkW B p) zkw := by unfold tkY; rw [if_pos e2]
    refine qdown (n := 22) (P := fun q => (∀ i, i < q → zkw.getD i [] ≠ tkW B p) → ∀ l4 l5 l6 : Option qPV, qV 233 5 (.inl fun r σ' => r = zkI (tkY B p) ∧ σ' = σ) 14 [some (qr 139), some (qr 1000), some (qi (nI q)), some (qi (nI (zks q))), l4, l5, l6] [] σ) (fun q hq ih => ?_) 0 (Nat.zero_le _) (fun i hi => absurd hi (Nat.not_lt_zero _)) none none none
    intro hno l4 l5 l6
    have hzl : ∀ q, q ≤ 22 → zks q ≤ 112 := by decide +kernel
    have hz := hzl q hq
    refine qV.go 30 [14, 25, 68, 115] ok_233 ?_
    simp only [qW_nop, qW_iconst, qW_iconstm, qW_bipush, qW_iloadn, qW_iload, qW_aloadn, qW_istoren, qW_istore, qW_iinc, qW_iadd, qW_isub, qW_ifeq, qW_iceq, qW_icne, qW_icge, qW_goto, qW_getf, qW_cv1_0, qW_cv2_0, qW_iret0, Nat.reduceAdd, Nat.reduceMul, Nat.reduceBEq, Nat.reduceEqDiff, Nat.reduceLT, Nat.reduceLeDiff, Nat.zero_le, nI_add, nI_mul, nI_cl, qin_eq, qofI, qlg_0, qlg_s, qls_i0, qls_r0, qls_l0, qls_1, qls_2, qkl_i, qkl_r, qkl_l, qkl_n, qIsI_i, qIsL_l, qIsR_r, qint_i, qil_i, qil_r, qil_l, qf4_0, qf4_1, qf4_2, qf4_3, qf2_0, qf2_1, qcs_n, qcs_i, qcs_r, qcs_l, qst_n, qst_c, qJ_0, qJ_st, qJ_go, qfl_I, qfl_Z, qfl_L, qfl_R, qrI_i, qrL_l, qrV_v, qRcv_0, qRcv_s, eq_self, true_and, and_true, true_or, or_true, false_and, and_false, false_or, or_false, ite_true, if_true, if_false, Bool.true_or, Bool.false_or, Bool.or_false, beq_self_eq_true, Bool.false_eq_true, bX12_inWords_0, bX12_inWords_10, bX12_inWords_14, bX12_inWords_25, bX12_inWords_42, bX12_inWords_62, bX12_inWords_63, bX12_inWords_68, bX12_inWords_106, bX12_inWords_107, bX12_inWords_115, bX12_inWords_122, bX12_inWords_133, kX12_inWords_0, kX12_inWords_10, kX12_inWords_14, kX12_inWords_25, kX12_inWords_42, kX12_inWords_62, kX12_inWords_63, kX12_inWords_68, kX12_inWords_106, kX12_inWords_107, kX12_inWords_115, kX12_inWords_122, kX12_inWords_133, qK_139, qR_139_0, qK_140, qR_139_1, qK_141, qR_139_5, qK_142, qR_139_6, qK_143, qR_139_7, qK_144, qR_139_8, qK_145, qR_139_9, qK_146, qR_139_21, qK_147, qR_139_25, qK_148, qR_139_30, qK_149, qR_139_31, qK_150, qR_139_33, qK_151, qR_139_34, qK_152, qR_139_35, qK_153, qR_139_36, qK_154, qR_139_39, qK_155, qR_139_40, qK_156, qR_139_41, qK_157]
    refine qBI.fn (s_length σ) (by decide) ?_
    rw [zkeys_len]
    simp (disch := omega) only [nI_leI, nI_ltI, nI_eq, nI_cl, qin_eq, nI_add, nI_mul, qb_z, qb_t, qb_f, nI_ne0', Nat.reduceAdd, Bool.false_eq_true, if_false, if_true, true_and, and_true, Nat.reduceEqDiff, not_true_eq_false, not_false_eq_true, false_implies, true_implies, ite_true, ite_false]
    refine ⟨fun g1 => ?_, fun g1 => ?_⟩
    · have e22 : q = 22 := by
        rcases Nat.lt_or_ge q 22 with g | g
        · have := zks_b q g
          rw [zkeys_len] at this
          omega
        · omega
      subst e22
      rw [eY, zix_no _ zkw (fun i hi => hno i hi)]
      rfl
    · have hq22 : q < 22 := by
        rcases Nat.lt_or_ge q 22 with g | g
        · exact g
        · exfalso
          have e22 : q = 22 := by omega
          rw [e22, zks_22, zkeys_len] at g1
          omega
      obtain ⟨kb1, kb2, kb3⟩ := zks_b q hq22
      have kc := zks_c q hq22
      rw [zkeys_len] at kb2
      have next := ih hq22
      have eqW := tkW_eq B p (zkw.getD q [])
      have hno' := fun (hne : zkw.getD q [] ≠ tkW B p) => next (fun i hi => by
        by_cases e : i = q
        · subst e; exact hne
        · exact hno i (by omega))
      have hyes := fun (he : zkw.getD q [] = tkW B p) => zix_is (tkW B p) zkw q hq22 he hno
      have hss : zks (q + 1) = zks q + (zkw.getD q []).length + 1 := rfl
      rw [hss] at hno'
      generalize zkw.getD q [] = w at kb1 kb2 kb3 kc eqW hno' hyes
      generalize zks q = z at *
      -- the word's end
      refine qdown (n := w.length) (P := fun j => qV 233 5 (.inl fun r σ' => r = zkI (tkY B p) ∧ σ' = σ) 25 [some (qr 139), some (qr 1000), some (qi (nI q)), some (qi (nI z)), some (qi (nI (z + j))), l5, l6] [] σ) (fun j hj ihj => ?_) 0 (Nat.zero_le _)
      refine qV.go 30 [14, 25, 68, 115] ok_233 ?_
      simp only [qW_nop, qW_iconst, qW_iconstm, qW_bipush, qW_iloadn, qW_iload, qW_aloadn, qW_istoren, qW_istore, qW_iinc, qW_iadd, qW_isub, qW_ifeq, qW_iceq, qW_icne, qW_icge, qW_goto, qW_getf, qW_cv1_0, qW_cv2_0, qW_iret0, Nat.reduceAdd, Nat.reduceMul, Nat.reduceBEq, Nat.reduceEqDiff, Nat.reduceLT, Nat.reduceLeDiff, Nat.zero_le, nI_add, nI_mul, nI_cl, qin_eq, qofI, qlg_0, qlg_s, qls_i0, qls_r0, qls_l0, qls_1, qls_2, qkl_i, qkl_r, qkl_l, qkl_n, qIsI_i, qIsL_l, qIsR_r, qint_i, qil_i, qil_r, qil_l, qf4_0, qf4_1, qf4_2, qf4_3, qf2_0, qf2_1, qcs_n, qcs_i, qcs_r, qcs_l, qst_n, qst_c, qJ_0, qJ_st, qJ_go, qfl_I, qfl_Z, qfl_L, qfl_R, qrI_i, qrL_l, qrV_v, qRcv_0, qRcv_s, eq_self, true_and, and_true, true_or, or_true, false_and, and_false, false_or, or_false, ite_true, if_true, if_false, Bool.true_or, Bool.false_or, Bool.or_false, beq_self_eq_true, Bool.false_eq_true, bX12_inWords_0, bX12_inWords_10, bX12_inWords_14, bX12_inWords_25, bX12_inWords_42, bX12_inWords_62, bX12_inWords_63, bX12_inWords_68, bX12_inWords_106, bX12_inWords_107, bX12_inWords_115, bX12_inWords_122, bX12_inWords_133, kX12_inWords_0, kX12_inWords_10, kX12_inWords_14, kX12_inWords_25, kX12_inWords_42, kX12_inWords_62, kX12_inWords_63, kX12_inWords_68, kX12_inWords_106, kX12_inWords_107, kX12_inWords_115, kX12_inWords_122, kX12_inWords_133, qK_139, qR_139_0, qK_140, qR_139_1, qK_141, qR_139_5, qK_142, qR_139_6, qK_143, qR_139_7, qK_144, qR_139_8, qK_145, qR_139_9, qK_146, qR_139_21, qK_147, qR_139_25, qK_148, qR_139_30, qK_149, qR_139_31, qK_150, qR_139_33, qK_151, qR_139_34, qK_152, qR_139_35, qK_153, qR_139_36, qK_154, qR_139_39, qK_155, qR_139_40, qK_156, qR_139_41, qK_157]
      refine qBI.fn (s_charAt σ (by rw [zkeys_len]; omega)) (by decide) ?_
      by_cases hjl : j < w.length
      · obtain ⟨c1, c2, c3⟩ := kc j hjl
        rw [c1]
        simp (disch := omega) only [nI_leI, nI_ltI, nI_eq, nI_cl, qin_eq, nI_add, nI_mul, qb_z, qb_t, qb_f, nI_ne0', Nat.reduceAdd, Bool.false_eq_true, if_false, if_true, true_and, and_true, Nat.reduceEqDiff, not_true_eq_false, not_false_eq_true, false_implies, true_implies, ite_true, ite_false]
        exact ⟨fun e => absurd e c3, fun _ => ihj hjl⟩
      · have ej : j = w.length := by omega
        subst ej
        rw [kb1, h2, h3, nI_sub (by omega), nI_sub (by omega)]
        simp only [Nat.add_sub_cancel_left]
        simp (disch := omega) only [nI_leI, nI_ltI, nI_eq, nI_cl, qin_eq, nI_add, nI_mul, qb_z, qb_t, qb_f, nI_ne0', Nat.reduceAdd, Bool.false_eq_true, if_false, if_true, true_and, and_true, Nat.reduceEqDiff, not_true_eq_false, not_false_eq_true, false_implies, true_implies, ite_true, ite_false]
        -- the letters
        have fin : ∀ (like : Bool) (i : Nat), (like = true → zkw.getD q [] = zkw.getD q [] → w = tkW B p) → (like = false → w ≠ tkW B p) → qV 233 5 (.inl fun r σ' => r = zkI (tkY B p) ∧ σ' = σ) 115 [some (qr 139), some (qr 1000), some (qi (nI q)), some (qi (nI z)), some (qi (nI (z + w.length))), some (qi (qb like)), some (qi (nI (z + i)))] [] σ := by
          intro like i a1 a2
          refine qV.go 30 [14, 25, 68, 115] ok_233 ?_
          simp only [qW_nop, qW_iconst, qW_iconstm, qW_bipush, qW_iloadn, qW_iload, qW_aloadn, qW_istoren, qW_istore, qW_iinc, qW_iadd, qW_isub, qW_ifeq, qW_iceq, qW_icne, qW_icge, qW_goto, qW_getf, qW_cv1_0, qW_cv2_0, qW_iret0, Nat.reduceAdd, Nat.reduceMul, Nat.reduceBEq, Nat.reduceEqDiff, Nat.reduceLT, Nat.reduceLeDiff, Nat.zero_le, nI_add, nI_mul, nI_cl, qin_eq, qofI, qlg_0, qlg_s, qls_i0, qls_r0, qls_l0, qls_1, qls_2, qkl_i, qkl_r, qkl_l, qkl_n, qIsI_i, qIsL_l, qIsR_r, qint_i, qil_i, qil_r, qil_l, qf4_0, qf4_1, qf4_2, qf4_3, qf2_0, qf2_1, qcs_n, qcs_i, qcs_r, qcs_l, qst_n, qst_c, qJ_0, qJ_st, qJ_go, qfl_I, qfl_Z, qfl_L, qfl_R, qrI_i, qrL_l, qrV_v, qRcv_0, qRcv_s, eq_self, true_and, and_true, true_or, or_true, false_and, and_false, false_or, or_false, ite_true, if_true, if_false, Bool.true_or, Bool.false_or, Bool.or_false, beq_self_eq_true, Bool.false_eq_true, bX12_inWords_0, bX12_inWords_10, bX12_inWords_14, bX12_inWords_25, bX12_inWords_42, bX12_inWords_62, bX12_inWords_63, bX12_inWords_68, bX12_inWords_106, bX12_inWords_107, bX12_inWords_115, bX12_inWords_122, bX12_inWords_133, kX12_inWords_0, kX12_inWords_10, kX12_inWords_14, kX12_inWords_25, kX12_inWords_42, kX12_inWords_62, kX12_inWords_63, kX12_inWords_68, kX12_inWords_106, kX12_inWords_107, kX12_inWords_115, kX12_inWords_122, kX12_inWords_133, qK_139, qR_139_0, qK_140, qR_139_1, qK_141, qR_139_5, qK_142, qR_139_6, qK_143, qR_139_7, qK_144, qR_139_8, qK_145, qR_139_9, qK_146, qR_139_21, qK_147, qR_139_25, qK_148, qR_139_30, qK_149, qR_139_31, qK_150, qR_139_33, qK_151, qR_139_34, qK_152, qR_139_35, qK_153, qR_139_36, qK_154, qR_139_39, qK_155, qR_139_40, qK_156, qR_139_41, qK_157]
          simp (disch := omega) only [nI_leI, nI_ltI, nI_eq, nI_cl, qin_eq, nI_add, nI_mul, qb_z, qb_t, qb_f, nI_ne0', Nat.reduceAdd, Bool.false_eq_true, if_false, if_true, true_and, and_true, Nat.reduceEqDiff, not_true_eq_false, not_false_eq_true, false_implies, true_implies, ite_true, ite_false]
          refine ⟨fun e => ?_, fun e => ?_⟩
          · exact hno' (a2 e) _ _ _
          · have := hyes (a1 (by simpa using e) rfl)
            rw [eY, this]
            unfold zkI
            rw [if_pos hq22]
        have loop := qdown (n := w.length) (P := fun i => ∀ like : Bool, like = (decide (w.length = tkE B p - tkS B p) && zall (fun x => decide (w.getD x 0 = B (tkS B p + x))) i) → qV 233 5 (.inl fun r σ' => r = zkI (tkY B p) ∧ σ' = σ) 68 [some (qr 139), some (qr 1000), some (qi (nI q)), some (qi (nI z)), some (qi (nI (z + w.length))), some (qi (qb like)), some (qi (nI (z + i)))] [] σ) (fun i hi ihi => ?_)
        · have st := loop 0 (Nat.zero_le _)
          refine ⟨fun e => ?_, fun e => ?_⟩
          · have := st false (by rw [decide_eq_false e]; rfl)
            exact this
          · have := st true (by rw [decide_eq_true e]; rfl)
            exact this
        · intro like hlike
          refine qV.go 30 [14, 25, 68, 115] ok_233 ?_
          simp only [qW_nop, qW_iconst, qW_iconstm, qW_bipush, qW_iloadn, qW_iload, qW_aloadn, qW_istoren, qW_istore, qW_iinc, qW_iadd, qW_isub, qW_ifeq, qW_iceq, qW_icne, qW_icge, qW_goto, qW_getf, qW_cv1_0, qW_cv2_0, qW_iret0, Nat.reduceAdd, Nat.reduceMul, Nat.reduceBEq, Nat.reduceEqDiff, Nat.reduceLT, Nat.reduceLeDiff, Nat.zero_le, nI_add, nI_mul, nI_cl, qin_eq, qofI, qlg_0, qlg_s, qls_i0, qls_r0, qls_l0, qls_1, qls_2, qkl_i, qkl_r, qkl_l, qkl_n, qIsI_i, qIsL_l, qIsR_r, qint_i, qil_i, qil_r, qil_l, qf4_0, qf4_1, qf4_2, qf4_3, qf2_0, qf2_1, qcs_n, qcs_i, qcs_r, qcs_l, qst_n, qst_c, qJ_0, qJ_st, qJ_go, qfl_I, qfl_Z, qfl_L, qfl_R, qrI_i, qrL_l, qrV_v, qRcv_0, qRcv_s, eq_self, true_and, and_true, true_or, or_true, false_and, and_false, false_or, or_false, ite_true, if_true, if_false, Bool.true_or, Bool.false_or, Bool.or_false, beq_self_eq_true, Bool.false_eq_true, bX12_inWords_0, bX12_inWords_10, bX12_inWords_14, bX12_inWords_25, bX12_inWords_42, bX12_inWords_62, bX12_inWords_63, bX12_inWords_68, bX12_inWords_106, bX12_inWords_107, bX12_inWords_115, bX12_inWords_122, bX12_inWords_133, kX12_inWords_0, kX12_inWords_10, kX12_inWords_14, kX12_inWords_25, kX12_inWords_42, kX12_inWords_62, kX12_inWords_63, kX12_inWords_68, kX12_inWords_106, kX12_inWords_107, kX12_inWords_115, kX12_inWords_122, kX12_inWords_133, qK_139, qR_139_0, qK_140, qR_139_1, qK_141, qR_139_5, qK_142, qR_139_6, qK_143, qR_139_7, qK_144, qR_139_8, qK_145, qR_139_9, qK_146, qR_139_21, qK_147, qR_139_25, qK_148, qR_139_30, qK_149, qR_139_31, qK_150, qR_139_33, qK_151, qR_139_34, qK_152, qR_139_35, qK_153, qR_139_36, qK_154, qR_139_39, qK_155, qR_139_40, qK_156, qR_139_41, qK_157]
          simp (disch := omega) only [nI_leI, nI_ltI, nI_eq, nI_cl, qin_eq, nI_add, nI_mul, qb_z, qb_t, qb_f, nI_ne0', Nat.reduceAdd, Bool.false_eq_true, if_false, if_true, true_and, and_true, Nat.reduceEqDiff, not_true_eq_false, not_false_eq_true, false_implies, true_implies, ite_true, ite_false]
          refine ⟨fun g2 => ?_, fun g2 => ?_⟩
          · refine fin like i (fun hl _ => ?_) (fun hl hw => ?_)
            · rw [hlike] at hl
              simp only [Bool.and_eq_true, decide_eq_true_eq, zall_iff] at hl
              exact eqW.mpr ⟨hl.1, fun x hx => hl.2 x (by omega)⟩
            · have hw2 := eqW.mp hw
              rw [hlike] at hl
              have : (decide (w.length = tkE B p - tkS B p) && zall (fun x => decide (w.getD x 0 = B (tkS B p + x))) i) = true := by
                simp only [Bool.and_eq_true, decide_eq_true_eq, zall_iff]
                exact ⟨hw2.1, fun x hx => hw2.2 x (by omega)⟩
              rw [this] at hl
              cases hl
          · have hil : i < w.length := by omega
            refine ⟨fun g3 => ?_, fun g3 => ?_⟩
            · refine fin like i (fun hl => by rw [g3] at hl; cases hl) (fun hl hw => ?_)
              have hw2 := eqW.mp hw
              rw [hlike] at hl
              have : (decide (w.length = tkE B p - tkS B p) && zall (fun x => decide (w.getD x 0 = B (tkS B p + x))) i) = true := by
                simp only [Bool.and_eq_true, decide_eq_true_eq, zall_iff]
                exact ⟨hw2.1, fun x hx => hw2.2 x (by omega)⟩
              rw [this] at hl
              cases hl
            · obtain ⟨c1, c2, c3⟩ := kc i hil
              have hlt : like = true := by simpa using g3
              have hlen : w.length = tkE B p - tkS B p := by
                rw [hlike] at hlt
                simp only [Bool.and_eq_true, decide_eq_true_eq] at hlt
                exact hlt.1
              refine qBI.fn (s_charAt σ (by rw [zkeys_len]; omega)) (by decide) ?_
              rw [c1, h2, nI_add, show nI (tkS B p + (z + i)) - nI z = nI (tkS B p + i) from by rw [nI_sub (by omega)]; congr 1; omega]
              refine qBI.fn (m_byteAt hB h0 (by omega)) (by decide) ?_
              have hbk := zB_k hB (tkS B p + i)
              have ec : (nI (w.getD i 0) = zcI (B (tkS B p + i))) = (w.getD i 0 = B (tkS B p + i)) := by
                have := zcI_eq (c := B (tkS B p + i)) (k := w.getD i 0) hbk (by omega)
                apply propext
                constructor
                · intro e
                  have e' := e.symm
                  rw [this] at e'
                  omega
                · intro e
                  have e' : zcI (B (tkS B p + i)) = nI (w.getD i 0) := by rw [this]; omega
                  exact e'.symm
              rw [ec]
              have e1 : zall (fun x => decide (w.getD x 0 = B (tkS B p + x))) (i + 1) = (zall (fun x => decide (w.getD x 0 = B (tkS B p + x))) i && decide (w.getD i 0 = B (tkS B p + i))) := rfl
              refine ⟨fun g4 => ?_, fun g4 => ?_⟩
              · have := ihi hil false (by rw [e1, decide_eq_false g4]; simp)
                exact this
              · have := ihi hil true (by rw [e1, decide_eq_true g4, Bool.and_true, ← hlike]; exact hlt.symm)
                exact this
  · have : tkY B p = 22 := by unfold tkY; rw [if_neg e2]
    rw [this]
    rfl
