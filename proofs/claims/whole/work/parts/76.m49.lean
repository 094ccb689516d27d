/-! the reference's calls: lives told, marks, reveille -/
theorem zmove1_0 {W : Nat → Nat → Nat} {n : Nat} {s : zL} (hs : zLW W n s) {i : Nat} (h1 : i ≠ 1) (hh5 : i ≠ 5) : (zmove1 W n s).1 0 i = s.1 0 i := by
  unfold zmove1
  split
  · rfl
  · split
    · rw [zendm_C]
    · split
      · rfl
      · split
        · rfl
        · obtain ⟨hw, hW, h5, hd, hst, hms, hmi, hov, hfr, hlt, hL, h7, hn⟩ := hs
          have hg := zdo_g (s := zsR s 5 (s.2.2 5 + 1)) (k := s.2.2 7) (n := n) hw (hW.2.1 _ (by omega)) h5 (by rw [zsR_n (by decide)]; exact hd)
          rw [zbeh_C]
          exact hg.2.1 i h1 hh5
theorem zgo_0 {W : Nat → Nat → Nat} {n i : Nat} (h1 : i ≠ 1) (h5 : i ≠ 5) : ∀ f s, zLW W n s → (zgo W n f s).1 0 i = s.1 0 i
  | 0, _, _ => rfl
  | f + 1, s, hs => by
    rw [zgo]
    split
    · rfl
    · rw [zgo_0 h1 h5 f _ (zLW_move hs), zmove1_0 hs h1 h5]
theorem zfin_0 {W : Nat → Nat → Nat} {n i : Nat} {s : zL} (hs : zLW W n s) (h1 : i ≠ 1) (h5 : i ≠ 5) : (zfin W n s).1 0 i = s.1 0 i := zgo_0 h1 h5 _ _ hs
theorem zmean_L {W : Nat → Nat → Nat} {n : Nat} {C : zC} {L : Nat → Nat} {seed many : Nat} (hw : zW C) (hW : zWW W n (C 0 0) (C 0 2 * C 0 3)) (h5 : C 0 5 ≤ 9999) (hL : ∀ j, L j ≤ 99) (hs : seed + many ≤ 10000) : ∀ i, i ≤ many → ∀ j, (zmean W n C L seed i).2 j ≤ 99
  | 0, _ => hL
  | i + 1, hi => by
    have ih := zmean_L hw hW h5 hL hs i (by omega)
    exact (zfin_W (zst0_W (seed := seed + i) hw hW h5 ih (by omega))).2.2.2.2.2.2.2.2.2.2.1
/-- camp, what is told, rounds and status change -/
theorem zMA.lf {σ σ' : qSg} {A : zA} {P : Nat → Nat → Prop} {C : zC} {D : Bool × (Nat → Nat)} {L : Nat → Nat} {v : Nat} (h : zMA σ A) (hW : zAW A) (f : zF P σ σ') (hP : ∀ a j, P a j → zPl a j ∨ a = 157 ∨ (a = 139 ∧ (j = 42 ∨ j = 2)) ∨ ¬ zKp a j) (hM : zM σ' 0 C) (hC : C 0 0 = aC A 0 0) (hD : zTold σ' D) (hL : zLo σ' L) (hv : σ'.1 139 2 = nI v) : zMA σ' (sS (sL (sD (sC A C) D) L) v) := by
  obtain ⟨w1, w2, w3, -⟩ := hW
  obtain ⟨h1, h2, h3, h4, h5, h6, h7, h8, h9, h10⟩ := h
  have e : ∀ a j, zKp a j → ¬ zPl a j → ¬ (a = 157 ∨ (a = 139 ∧ (j = 42 ∨ j = 2))) → σ'.1 a j = σ.1 a j := fun a j k1 k2 k3 => f.1 a j fun hp => by
    rcases hP a j hp with q | q | q | q
    · exact k2 q
    · exact k3 (Or.inl q)
    · exact k3 (Or.inr q)
    · exact q k1
  refine ⟨⟨hM, fun b hb => ?_, h1.2.2.kp w1.w (fun j hj h88 => e _ _ (by unfold zKp; omega) (by unfold zPl; omega) (by omega))⟩, ?_, fun i i1 i2 => ?_, ?_, ⟨?_, fun j hj => ?_⟩, by rw [f.2]; exact h6, hv, ⟨?_, ?_⟩, hD, hL⟩
  · rw [f.2]; exact h1.2.1 b (by have h11 : b < C 0 0 := hb; have h12 : C 0 0 = A.1.1 0 0 := hC; omega)
  · rw [e _ _ (by unfold zKp; omega) (by unfold zPl; omega) (by omega)]; exact h2
  · have i2 : i ≤ (aM A).1 := i2
    exact (h3 i i1 i2).kp (w3 i i1 i2) (fun j hj => e _ _ (by unfold zKp; omega) (by unfold zPl; omega) (by omega)) (fun j hj => by rw [f.2])
  · exact h4.kp (fun j => e _ _ (by unfold zKp; omega) (by unfold zPl; omega) (by omega)) (fun j => e _ _ (by unfold zKp; omega) (by unfold zPl; omega) (by omega)) (fun j => by rw [f.2])
  · rw [e _ _ (by unfold zKp; omega) (by unfold zPl; omega) (by omega)]; exact h5.1
  · rw [e _ _ (by unfold zKp; omega) (by unfold zPl; omega) (by omega)]; exact h5.2 j hj
  · rw [e _ _ (by unfold zKp; omega) (by unfold zPl; omega) (by omega)]; exact h8.1
  · rw [e _ _ (by unfold zKp; omega) (by unfold zPl; omega) (by omega)]; exact h8.2
theorem zMWs.w {σ : qSg} {W : Nat → Nat → Nat} {n : Nat} (h : zMWs σ (456 * 0) W n) : zMW σ W n := by
  obtain ⟨h1, h2⟩ := h
  refine ⟨by rwa [Nat.mul_zero, Nat.zero_add] at h1, fun k hk i hi => ?_⟩
  have := h2 k hk i hi
  rwa [Nat.mul_zero, Nat.zero_add] at this
set_option maxRecDepth 20000 in
theorem M_live {σ : qSg} {A : zA} (hA : zMA σ A) (hW : zAW A) (x : Int32) : qCI 11 362 [qr 139, qi x] σ (zCall σ (yLive A x)) := by
  have hM := hA.m
  have hw := hW.w
  have h5 : aC A 0 5 ≤ 9999 := hW.1.2.1
  refine qCI.of [some (qr 139), some (qi x), none] ok_362 (Nat.le_of_ble_eq_true rfl) rfl ?_
  refine qV.go 30 [36] ok_362 ?_
  simp only [qW_nop, qW_iconst, qW_iconstm, qW_bipush, qW_ldc2, qW_lconst, qW_iloadn, qW_aloadn, qW_istoren, qW_iinc, qW_i2l, qW_ifne, qW_icne, qW_icge, qW_goto, qW_getf, qW_iald, qW_iast, qW_cs3_0, qW_cv2_0, qW_cv2_2, qW_iret0, qW_putf3, Nat.reduceAdd, Nat.reduceMul, Nat.reduceBEq, Nat.reduceEqDiff, Nat.reduceLT, Nat.reduceLeDiff, Nat.zero_le, nI_add, nI_mul, nI_cl, qin_eq, qofI, qlg_0, qlg_s, qls_i0, qls_r0, qls_l0, qls_1, qls_2, qkl_i, qkl_r, qkl_l, qkl_n, qIsI_i, qIsL_l, qIsR_r, qint_i, qil_i, qil_r, qil_l, qf4_0, qf4_1, qf4_2, qf4_3, qf2_0, qf2_1, qcs_n, qcs_i, qcs_r, qcs_l, qst_n, qst_c, qJ_0, qJ_st, qJ_go, qfl_I, qfl_Z, qfl_L, qfl_R, qrI_i, qrL_l, qrV_v, qRcv_0, qRcv_s, eq_self, true_and, and_true, true_or, or_true, false_and, and_false, false_or, or_false, ite_true, if_true, if_false, Bool.true_or, Bool.false_or, Bool.or_false, beq_self_eq_true, Bool.false_eq_true, bX12_live_0, bX12_live_18, bX12_live_36, bX12_live_43, bX12_live_66, kX12_live_0, kX12_live_18, kX12_live_36, kX12_live_43, kX12_live_66, qK_139, qR_139_0, qK_140, qR_139_1, qK_141, qR_139_5, qK_142, qR_139_6, qK_143, qR_139_7, qK_144, qR_139_8, qK_145, qR_139_9, qK_146, qR_139_21, qK_147, qR_139_25, qK_148, qR_139_30, qK_149, qR_139_31, qK_150, qR_139_33, qK_151, qR_139_34, qK_152, qR_139_35, qK_153, qR_139_36, qK_154, qR_139_39, qK_155, qR_139_40, qK_156, qR_139_41, qK_157]
  refine qBI.fn (m_isFrom' σ _ (lo := 0) (hi := 9999) (by decide) (by decide)) (by decide) ?_
  rw [zlh_i]
  simp (disch := omega) only [nI_leI, nI_ltI, nI_eq, nI_cl, qin_eq, nI_add, nI_mul, qb_z, qb_t, qb_f, nI_ne0', Nat.reduceAdd, Bool.false_eq_true, if_false, if_true, true_and, and_true, Nat.reduceEqDiff, not_true_eq_false, not_false_eq_true, false_implies, true_implies, ite_true, ite_false]
  refine ⟨fun g => ?_, fun g => e_no hA hW zRef.rf (by decide) (by unfold yLive; rw [if_pos g]; rfl)⟩
  have g : zih x 0 9999 = true := by simpa using g
  obtain ⟨s, -, hs, rfl⟩ := zih_nI g
  have hk : zMwk σ (456 * 0) A.1.2.2 := hA.1.2.2
  have hKW := hW.1.2.2.2
  cases ew : A.1.2.2 with
  | none =>
    rw [ew] at hk
    have hk : σ.1 140 (456 * 0 + 6) = iI (-1) := hk
    rw [Nat.mul_zero, Nat.zero_add] at hk
    rw [hk]
    refine ⟨fun hh => absurd rfl hh, fun _ => e_no hA hW zRef.rf (by decide) ?_⟩
    unfold yLive
    rw [if_neg (by rw [g]; decide), ew]
    rfl
  | some w =>
    rw [ew] at hk
    have hMW := zMWs.w hk
    have hWW := hKW w ew
    have w60 := hWW.1
    have hne : ¬ nI w.2 = iI (-1) := by
      rw [iI_nat, qeq, iI_toInt (by omega) (by omega)]
      intro hh
      have : (iI (-1)).toInt = -1 := rfl
      omega
    rw [hMW.1]
    refine ⟨fun _ => ?_, fun hh => absurd hh hne⟩
    have hst := zst0_W (seed := s) hw hWW h5 hW.2.2.2.2.2 (by omega)
    refine (live_go hM hMW hw hWW h5 hW.2.2.2.2.2 hA.2.2.2.2.2.2.2.2.2 hs).mono fun r σ' h => ?_
    obtain ⟨rfl, a1, a2, a3, a4, a5, f⟩ := h
    have eY : yLive A (nI s) = yOk (sL (sD (sC A (zfin w.1 w.2 (zst0 (aC A) (aL A) s)).1) (true, (zfin w.1 w.2 (zst0 (aC A) (aL A) s)).2.2)) (zfin w.1 w.2 (zst0 (aC A) (aL A) s)).2.1) (nI ((zfin w.1 w.2 (zst0 (aC A) (aL A) s)).2.2 5)) := by
      unfold yLive
      rw [if_neg (by rw [g]; decide), ew, nI_tn (by omega)]
    rw [eY]
    refine ⟨rfl, hA.lf hW f (fun a j h => ?_) a1 ?_ ⟨a4, fun _ => a3⟩ a2 a5, zRef.f f fun a j h => ?_⟩
    · rcases h with h | h | h
      · exact Or.inl h
      · exact Or.inr (Or.inl h)
      · exact Or.inr (Or.inr (Or.inl h))
    · rw [zfin_0 hst (by decide) (by decide)]; rfl
    · unfold zPt zPl at h; omega
set_option maxRecDepth 20000 in
theorem M_lived {σ : qSg} {A : zA} (hA : zMA σ A) (hW : zAW A) (w : Int32) : qCI 2 363 [qr 139, qi w] σ (zCall σ (yLived A w)) := by
  have hD := hA.2.2.2.2.2.2.2.2.1
  refine qCI.of [some (qr 139), some (qi w)] ok_363 (Nat.le_of_ble_eq_true rfl) rfl ?_
  refine qV.go 30 [9, 17] ok_363 ?_
  simp only [qW_nop, qW_iconst, qW_bipush, qW_iloadn, qW_aloadn, qW_ifeq, qW_iflt, qW_icle, qW_goto, qW_getf, qW_iald, qW_cv2_0, qW_iret0, Nat.reduceAdd, Nat.reduceMul, Nat.reduceBEq, Nat.reduceEqDiff, Nat.reduceLT, Nat.reduceLeDiff, Nat.zero_le, nI_add, nI_mul, nI_cl, qin_eq, qofI, qlg_0, qlg_s, qls_i0, qls_r0, qls_l0, qls_1, qls_2, qkl_i, qkl_r, qkl_l, qkl_n, qIsI_i, qIsL_l, qIsR_r, qint_i, qil_i, qil_r, qil_l, qf4_0, qf4_1, qf4_2, qf4_3, qf2_0, qf2_1, qcs_n, qcs_i, qcs_r, qcs_l, qst_n, qst_c, qJ_0, qJ_st, qJ_go, qfl_I, qfl_Z, qfl_L, qfl_R, qrI_i, qrL_l, qrV_v, qRcv_0, qRcv_s, eq_self, true_and, and_true, true_or, or_true, false_and, and_false, false_or, or_false, ite_true, if_true, if_false, Bool.true_or, Bool.false_or, Bool.or_false, beq_self_eq_true, Bool.false_eq_true, bX12_lived_0, bX12_lived_9, bX12_lived_17, bX12_lived_37, bX12_lived_43, kX12_lived_0, kX12_lived_9, kX12_lived_17, kX12_lived_37, kX12_lived_43, qK_139, qR_139_0, qK_140, qR_139_1, qK_141, qR_139_5, qK_142, qR_139_6, qK_143, qR_139_7, qK_144, qR_139_8, qK_145, qR_139_9, qK_146, qR_139_21, qK_147, qR_139_25, qK_148, qR_139_30, qK_149, qR_139_31, qK_150, qR_139_33, qK_151, qR_139_34, qK_152, qR_139_35, qK_153, qR_139_36, qK_154, qR_139_39, qK_155, qR_139_40, qK_156, qR_139_41, qK_157]
  have no : zih w 0 4 = false → qV 363 2 (.inl (zCall σ (yLived A w))) 9 [some (qr 139), some (qi w)] [] σ := by
    intro hz
    refine qV.go 30 [9999] ok_363 ?_
    simp only [qW_nop, qW_iconst, qW_bipush, qW_iloadn, qW_aloadn, qW_ifeq, qW_iflt, qW_icle, qW_goto, qW_getf, qW_iald, qW_cv2_0, qW_iret0, Nat.reduceAdd, Nat.reduceMul, Nat.reduceBEq, Nat.reduceEqDiff, Nat.reduceLT, Nat.reduceLeDiff, Nat.zero_le, nI_add, nI_mul, nI_cl, qin_eq, qofI, qlg_0, qlg_s, qls_i0, qls_r0, qls_l0, qls_1, qls_2, qkl_i, qkl_r, qkl_l, qkl_n, qIsI_i, qIsL_l, qIsR_r, qint_i, qil_i, qil_r, qil_l, qf4_0, qf4_1, qf4_2, qf4_3, qf2_0, qf2_1, qcs_n, qcs_i, qcs_r, qcs_l, qst_n, qst_c, qJ_0, qJ_st, qJ_go, qfl_I, qfl_Z, qfl_L, qfl_R, qrI_i, qrL_l, qrV_v, qRcv_0, qRcv_s, eq_self, true_and, and_true, true_or, or_true, false_and, and_false, false_or, or_false, ite_true, if_true, if_false, Bool.true_or, Bool.false_or, Bool.or_false, beq_self_eq_true, Bool.false_eq_true, bX12_lived_0, bX12_lived_9, bX12_lived_17, bX12_lived_37, bX12_lived_43, kX12_lived_0, kX12_lived_9, kX12_lived_17, kX12_lived_37, kX12_lived_43, qK_139, qR_139_0, qK_140, qR_139_1, qK_141, qR_139_5, qK_142, qR_139_6, qK_143, qR_139_7, qK_144, qR_139_8, qK_145, qR_139_9, qK_146, qR_139_21, qK_147, qR_139_25, qK_148, qR_139_30, qK_149, qR_139_31, qK_150, qR_139_33, qK_151, qR_139_34, qK_152, qR_139_35, qK_153, qR_139_36, qK_154, qR_139_39, qK_155, qR_139_40, qK_156, qR_139_41, qK_157]
    exact e_no hA hW zRef.rf (by decide) (by unfold yLived; rw [if_pos hz]; rfl)
  simp only [z0i, qlt, qle, nI_t (show 4 < 2147483648 by decide)]
  refine ⟨fun g => no (by simp [zih]; omega), fun g => ⟨fun g2 => ?_, fun g2 => no (by simp [zih]; omega)⟩⟩
  have hz : zih w 0 4 = true := by simp [zih]; omega
  obtain ⟨k, -, hk, rfl⟩ := zih_nI hz
  have eY : yLived A (nI k) = if (aD A).1 = true then yOk A (nI ((aD A).2 k)) else yNo A 6 := by
    unfold yLived
    rw [if_neg (by rw [hz]; decide), nI_tn (by omega)]
  rw [eY]
  refine qV.go 30 [9999] ok_363 ?_
  simp only [qW_nop, qW_iconst, qW_bipush, qW_iloadn, qW_aloadn, qW_ifeq, qW_iflt, qW_icle, qW_goto, qW_getf, qW_iald, qW_cv2_0, qW_iret0, Nat.reduceAdd, Nat.reduceMul, Nat.reduceBEq, Nat.reduceEqDiff, Nat.reduceLT, Nat.reduceLeDiff, Nat.zero_le, nI_add, nI_mul, nI_cl, qin_eq, qofI, qlg_0, qlg_s, qls_i0, qls_r0, qls_l0, qls_1, qls_2, qkl_i, qkl_r, qkl_l, qkl_n, qIsI_i, qIsL_l, qIsR_r, qint_i, qil_i, qil_r, qil_l, qf4_0, qf4_1, qf4_2, qf4_3, qf2_0, qf2_1, qcs_n, qcs_i, qcs_r, qcs_l, qst_n, qst_c, qJ_0, qJ_st, qJ_go, qfl_I, qfl_Z, qfl_L, qfl_R, qrI_i, qrL_l, qrV_v, qRcv_0, qRcv_s, eq_self, true_and, and_true, true_or, or_true, false_and, and_false, false_or, or_false, ite_true, if_true, if_false, Bool.true_or, Bool.false_or, Bool.or_false, beq_self_eq_true, Bool.false_eq_true, bX12_lived_0, bX12_lived_9, bX12_lived_17, bX12_lived_37, bX12_lived_43, kX12_lived_0, kX12_lived_9, kX12_lived_17, kX12_lived_37, kX12_lived_43, qK_139, qR_139_0, qK_140, qR_139_1, qK_141, qR_139_5, qK_142, qR_139_6, qK_143, qR_139_7, qK_144, qR_139_8, qK_145, qR_139_9, qK_146, qR_139_21, qK_147, qR_139_25, qK_148, qR_139_30, qK_149, qR_139_31, qK_150, qR_139_33, qK_151, qR_139_34, qK_152, qR_139_35, qK_153, qR_139_36, qK_154, qR_139_39, qK_155, qR_139_40, qK_156, qR_139_41, qK_157]
  rw [hD.1]
  simp (disch := omega) only [nI_leI, nI_ltI, nI_eq, nI_cl, qin_eq, nI_add, nI_mul, qb_z, qb_t, qb_f, nI_ne0', Nat.reduceAdd, Bool.false_eq_true, if_false, if_true, true_and, and_true, Nat.reduceEqDiff, not_true_eq_false, not_false_eq_true, false_implies, true_implies, ite_true, ite_false]
  refine ⟨fun h => ?_, fun h => ?_⟩
  · rw [if_neg (by rw [h]; decide)]
    exact e_no hA hW zRef.rf (by decide) rfl
  · have h : (aD A).1 = true := by simpa using h
    rw [if_pos h, hD.2 h k (by omega)]
    exact e_ok hA hW zRef.rf (by decide) rfl
set_option maxRecDepth 20000 in
theorem M_mean {σ : qSg} {A : zA} (hA : zMA σ A) (hW : zAW A) (x m : Int32) : qCI 11 364 [qr 139, qi x, qi m] σ (zCall σ (yMean A x m)) := by
  have hM := hA.m
  have hw := hW.w
  have h5 : aC A 0 5 ≤ 9999 := hW.1.2.1
  refine qCI.of [some (qr 139), some (qi x), some (qi m), none, none, none] ok_364 (Nat.le_of_ble_eq_true rfl) rfl ?_
  refine qV.go 30 [35, 41] ok_364 ?_
  simp only [qW_nop, qW_iconst, qW_iconstm, qW_bipush, qW_sipush, qW_ldc2, qW_lconst, qW_iloadn, qW_iload, qW_lloadn, qW_aloadn, qW_istore, qW_lstoren, qW_iinc, qW_iadd, qW_isub, qW_ladd, qW_i2l, qW_ifeq, qW_icne, qW_icge, qW_icle, qW_goto, qW_getf, qW_iald, qW_cs1_0, qW_cs3_0, qW_cv1_0, qW_cv2_0, qW_cv2_2, qW_cv3_0, qW_iret1, Nat.reduceAdd, Nat.reduceMul, Nat.reduceBEq, Nat.reduceEqDiff, Nat.reduceLT, Nat.reduceLeDiff, Nat.zero_le, nI_add, nI_mul, nI_cl, qin_eq, qofI, qlg_0, qlg_s, qls_i0, qls_r0, qls_l0, qls_1, qls_2, qkl_i, qkl_r, qkl_l, qkl_n, qIsI_i, qIsL_l, qIsR_r, qint_i, qil_i, qil_r, qil_l, qf4_0, qf4_1, qf4_2, qf4_3, qf2_0, qf2_1, qcs_n, qcs_i, qcs_r, qcs_l, qst_n, qst_c, qJ_0, qJ_st, qJ_go, qfl_I, qfl_Z, qfl_L, qfl_R, qrI_i, qrL_l, qrV_v, qRcv_0, qRcv_s, eq_self, true_and, and_true, true_or, or_true, false_and, and_false, false_or, or_false, ite_true, if_true, if_false, Bool.true_or, Bool.false_or, Bool.or_false, beq_self_eq_true, Bool.false_eq_true, bX12_mean_0, bX12_mean_35, bX12_mean_41, bX12_mean_59, bX12_mean_71, bX12_mean_109, kX12_mean_0, kX12_mean_35, kX12_mean_41, kX12_mean_59, kX12_mean_71, kX12_mean_109, qK_139, qR_139_0, qK_140, qR_139_1, qK_141, qR_139_5, qK_142, qR_139_6, qK_143, qR_139_7, qK_144, qR_139_8, qK_145, qR_139_9, qK_146, qR_139_21, qK_147, qR_139_25, qK_148, qR_139_30, qK_149, qR_139_31, qK_150, qR_139_33, qK_151, qR_139_34, qK_152, qR_139_35, qK_153, qR_139_36, qK_154, qR_139_39, qK_155, qR_139_40, qK_156, qR_139_41, qK_157]
  refine qBI.fn (m_isFrom' σ _ (lo := 0) (hi := 9999) (by decide) (by decide)) (by decide) ?_
  rw [zlh_i]
  simp (disch := omega) only [nI_leI, nI_ltI, nI_eq, nI_cl, qin_eq, nI_add, nI_mul, qb_z, qb_t, qb_f, nI_ne0', Nat.reduceAdd, Bool.false_eq_true, if_false, if_true, true_and, and_true, Nat.reduceEqDiff, not_true_eq_false, not_false_eq_true, false_implies, true_implies, ite_true, ite_false]
  have no : (zih x 0 9999 && zih m 1 20 && decide (x.toInt + m.toInt ≤ 10000)) = false → qV 364 11 (.inl (zCall σ (yMean A x m))) 35 [some (qr 139), some (qi x), some (qi m), none, none, none] [] σ := by
    intro hz
    refine qV.go 30 [9999] ok_364 ?_
    simp only [qW_nop, qW_iconst, qW_iconstm, qW_bipush, qW_sipush, qW_ldc2, qW_lconst, qW_iloadn, qW_iload, qW_lloadn, qW_aloadn, qW_istore, qW_lstoren, qW_iinc, qW_iadd, qW_isub, qW_ladd, qW_i2l, qW_ifeq, qW_icne, qW_icge, qW_icle, qW_goto, qW_getf, qW_iald, qW_cs1_0, qW_cs3_0, qW_cv1_0, qW_cv2_0, qW_cv2_2, qW_cv3_0, qW_iret1, Nat.reduceAdd, Nat.reduceMul, Nat.reduceBEq, Nat.reduceEqDiff, Nat.reduceLT, Nat.reduceLeDiff, Nat.zero_le, nI_add, nI_mul, nI_cl, qin_eq, qofI, qlg_0, qlg_s, qls_i0, qls_r0, qls_l0, qls_1, qls_2, qkl_i, qkl_r, qkl_l, qkl_n, qIsI_i, qIsL_l, qIsR_r, qint_i, qil_i, qil_r, qil_l, qf4_0, qf4_1, qf4_2, qf4_3, qf2_0, qf2_1, qcs_n, qcs_i, qcs_r, qcs_l, qst_n, qst_c, qJ_0, qJ_st, qJ_go, qfl_I, qfl_Z, qfl_L, qfl_R, qrI_i, qrL_l, qrV_v, qRcv_0, qRcv_s, eq_self, true_and, and_true, true_or, or_true, false_and, and_false, false_or, or_false, ite_true, if_true, if_false, Bool.true_or, Bool.false_or, Bool.or_false, beq_self_eq_true, Bool.false_eq_true, bX12_mean_0, bX12_mean_35, bX12_mean_41, bX12_mean_59, bX12_mean_71, bX12_mean_109, kX12_mean_0, kX12_mean_35, kX12_mean_41, kX12_mean_59, kX12_mean_71, kX12_mean_109, qK_139, qR_139_0, qK_140, qR_139_1, qK_141, qR_139_5, qK_142, qR_139_6, qK_143, qR_139_7, qK_144, qR_139_8, qK_145, qR_139_9, qK_146, qR_139_21, qK_147, qR_139_25, qK_148, qR_139_30, qK_149, qR_139_31, qK_150, qR_139_33, qK_151, qR_139_34, qK_152, qR_139_35, qK_153, qR_139_36, qK_154, qR_139_39, qK_155, qR_139_40, qK_156, qR_139_41, qK_157]
    exact e_is hA hW zRef.rf (by decide) (by decide) (by unfold yMean; rw [if_pos hz]; rfl)
  refine ⟨fun g => no (by rw [g]; rfl), fun g => ?_⟩
  have g : zih x 0 9999 = true := by simpa using g
  refine qBI.fn (m_isFrom' σ _ (lo := 1) (hi := 20) (by decide) (by decide)) (by decide) ?_
  rw [zlh_i]
  simp (disch := omega) only [nI_leI, nI_ltI, nI_eq, nI_cl, qin_eq, nI_add, nI_mul, qb_z, qb_t, qb_f, nI_ne0', Nat.reduceAdd, Bool.false_eq_true, if_false, if_true, true_and, and_true, Nat.reduceEqDiff, not_true_eq_false, not_false_eq_true, false_implies, true_implies, ite_true, ite_false]
  refine ⟨fun g1 => no (by rw [g1, Bool.and_false]; rfl), fun g1 => ?_⟩
  have g1 : zih m 1 20 = true := by simpa using g1
  obtain ⟨s, -, hs, rfl⟩ := zih_nI g
  obtain ⟨k, k1, k2, rfl⟩ := zih_nI g1
  simp (disch := omega) only [nI_leI, nI_ltI, nI_eq, nI_cl, qin_eq, nI_add, nI_mul, qb_z, qb_t, qb_f, nI_ne0', Nat.reduceAdd, Bool.false_eq_true, if_false, if_true, true_and, and_true, Nat.reduceEqDiff, not_true_eq_false, not_false_eq_true, false_implies, true_implies, ite_true, ite_false]
  rw [nI_sub (by omega)]
  simp (disch := omega) only [nI_leI, nI_ltI, nI_eq, nI_cl, qin_eq, nI_add, nI_mul, qb_z, qb_t, qb_f, nI_ne0', Nat.reduceAdd, Bool.false_eq_true, if_false, if_true, true_and, and_true, Nat.reduceEqDiff, not_true_eq_false, not_false_eq_true, false_implies, true_implies, ite_true, ite_false]
  have et : (nI s).toInt + (nI k).toInt = ((s + k : Nat) : Int) := by rw [nI_t (by omega), nI_t (by omega)]; omega
  refine ⟨fun g2 => ?_, fun g2 => no (by rw [et, decide_eq_false (by omega), Bool.and_false])⟩
  have g3 : s + k ≤ 10000 := by omega
  have hk : zMwk σ (456 * 0) A.1.2.2 := hA.1.2.2
  have hKW := hW.1.2.2.2
  clear no
  refine qV.go 30 [59] ok_364 ?_
  simp only [qW_nop, qW_iconst, qW_iconstm, qW_bipush, qW_sipush, qW_ldc2, qW_lconst, qW_iloadn, qW_iload, qW_lloadn, qW_aloadn, qW_istore, qW_lstoren, qW_iinc, qW_iadd, qW_isub, qW_ladd, qW_i2l, qW_ifeq, qW_icne, qW_icge, qW_icle, qW_goto, qW_getf, qW_iald, qW_cs1_0, qW_cs3_0, qW_cv1_0, qW_cv2_0, qW_cv2_2, qW_cv3_0, qW_iret1, Nat.reduceAdd, Nat.reduceMul, Nat.reduceBEq, Nat.reduceEqDiff, Nat.reduceLT, Nat.reduceLeDiff, Nat.zero_le, nI_add, nI_mul, nI_cl, qin_eq, qofI, qlg_0, qlg_s, qls_i0, qls_r0, qls_l0, qls_1, qls_2, qkl_i, qkl_r, qkl_l, qkl_n, qIsI_i, qIsL_l, qIsR_r, qint_i, qil_i, qil_r, qil_l, qf4_0, qf4_1, qf4_2, qf4_3, qf2_0, qf2_1, qcs_n, qcs_i, qcs_r, qcs_l, qst_n, qst_c, qJ_0, qJ_st, qJ_go, qfl_I, qfl_Z, qfl_L, qfl_R, qrI_i, qrL_l, qrV_v, qRcv_0, qRcv_s, eq_self, true_and, and_true, true_or, or_true, false_and, and_false, false_or, or_false, ite_true, if_true, if_false, Bool.true_or, Bool.false_or, Bool.or_false, beq_self_eq_true, Bool.false_eq_true, bX12_mean_0, bX12_mean_35, bX12_mean_41, bX12_mean_59, bX12_mean_71, bX12_mean_109, kX12_mean_0, kX12_mean_35, kX12_mean_41, kX12_mean_59, kX12_mean_71, kX12_mean_109, qK_139, qR_139_0, qK_140, qR_139_1, qK_141, qR_139_5, qK_142, qR_139_6, qK_143, qR_139_7, qK_144, qR_139_8, qK_145, qR_139_9, qK_146, qR_139_21, qK_147, qR_139_25, qK_148, qR_139_30, qK_149, qR_139_31, qK_150, qR_139_33, qK_151, qR_139_34, qK_152, qR_139_35, qK_153, qR_139_36, qK_154, qR_139_39, qK_155, qR_139_40, qK_156, qR_139_41, qK_157]
  cases ew : A.1.2.2 with
  | none =>
    rw [ew] at hk
    have hk : σ.1 140 (456 * 0 + 6) = iI (-1) := hk
    rw [Nat.mul_zero, Nat.zero_add] at hk
    rw [hk]
    refine ⟨fun hh => absurd rfl hh, fun _ => e_is hA hW zRef.rf (by decide) (by decide) ?_⟩
    unfold yMean
    rw [if_neg (by rw [g, g1, et, decide_eq_true (by omega)]; decide), ew]
    rfl
  | some w =>
    rw [ew] at hk
    have hMW := zMWs.w hk
    have hWW := hKW w ew
    have w60 := hWW.1
    have hne : ¬ nI w.2 = iI (-1) := by
      rw [iI_nat, qeq, iI_toInt (by omega) (by omega)]
      intro hh
      have : (iI (-1)).toInt = -1 := rfl
      omega
    rw [hMW.1]
    refine ⟨fun _ => ?_, fun hh => absurd hh hne⟩
    refine (mean_go hM hMW hw hWW h5 hW.2.2.2.2.2 hA.2.2.2.2.2.2.2.2.2 k2 k1 g3).mono fun r σ' h => ?_
    obtain ⟨σ1, rfl, rfl, a1, a2, f⟩ := h
    have eY : yMean A (nI s) (nI k) = yT (sF (sL A (zmean w.1 w.2 (aC A) (aL A) s k).2) (zfrac (zmean w.1 w.2 (aC A) (aL A) s k).1 k)) := by
      unfold yMean
      rw [if_neg (by rw [g, g1, et, decide_eq_true (by omega)]; decide), ew, nI_tn (by omega), nI_tn (by omega)]
    rw [eY]
    have hD := hA.2.2.2.2.2.2.2.2.1
    have hv := hA.2.2.2.2.2.2.1
    have M1 : zMA σ1 (sL A (zmean w.1 w.2 (aC A) (aL A) s k).2) := hA.lf hW f (fun a j h => by unfold zPe at h; unfold zPl zKp; omega) a1 rfl (D := aD A) ⟨by rw [f.1 _ _ (by unfold zPe; omega)]; exact hD.1, fun hd j hj => by rw [f.1 _ _ (by unfold zPe; omega)]; exact hD.2 hd j hj⟩ a2 (v := aS A) (by rw [f.1 _ _ (by unfold zPe; omega)]; exact hv)
    have W1 : zAW (sL A (zmean w.1 w.2 (aC A) (aL A) s k).2) := ⟨hW.1, hW.2.1, hW.2.2.1, hW.2.2.2.1, hW.2.2.2.2.1, zmean_L hw hWW h5 hW.2.2.2.2.2 g3 k (Nat.le_refl _)⟩
    refine ⟨rfl, M1.tell W1 _ _, zG.tr (zRef.f f fun a j h => ?_) zRef_tell⟩
    unfold zPe at h
    omega
theorem zMwk.cp {σ σ' : qSg} {s t : Nat} {w : Option ((Nat → Nat → Nat) × Nat)} (h : zMwk σ s w) (hn : ∀ x, w = some x → x.2 ≤ 60) (e : ∀ j, j < 448 → σ'.1 140 (t + j) = σ.1 140 (s + j)) : zMwk σ' t w := by
  cases w with
  | none =>
    show σ'.1 140 (t + 6) = iI (-1)
    rw [e 6 (by decide)]
    exact h
  | some x =>
    have h60 := hn x rfl
    obtain ⟨h1, h2⟩ := h
    refine ⟨?_, fun k hk i hi => ?_⟩
    · rw [e 6 (by decide)]; exact h1
    · rw [e _ (by omega)]; exact h2 k hk i hi
theorem zMK.cp {σ σ' : qSg} {i i' : Nat} {k : zK} (h : zMK σ i k) (hW : zKW k) (e : ∀ j, j < 448 → σ'.1 140 (456 * i' + j) = σ.1 140 (456 * i + j)) (e2 : ∀ j, j < 8 → σ'.2 141 (8 * i' + j) = σ.2 141 (8 * i + j)) : zMK σ' i' k := by
  have wb := hW.1.1
  refine ⟨h.1.to hW.1 (fun j hj => e j (by omega)), fun b hb => ?_, h.2.2.cp hW.w (fun j hj => e j hj)⟩
  rw [e2 b (by omega)]
  exact h.2.1 b hb
theorem zlm_1 (σ : qSg) (a src dst n : Nat) : (zlm σ a src dst n).1 = σ.1 := rfl
theorem zlm_2 (σ : qSg) (a src dst n c j : Nat) : (zlm σ a src dst n).2 c j = if c = a ∧ dst ≤ j ∧ j < dst + n then σ.2 a (src + (j - dst)) else σ.2 c j := rfl
theorem zmv_1 (σ : qSg) (a src dst n c j : Nat) : (zmv σ a src dst n).1 c j = if c = a ∧ dst ≤ j ∧ j < dst + n then σ.1 a (src + (j - dst)) else σ.1 c j := rfl
theorem zmv_2 (σ : qSg) (a src dst n : Nat) : (zmv σ a src dst n).2 = σ.2 := rfl
theorem M_mark {σ : qSg} {A : zA} (hA : zMA σ A) (hW : zAW A) : qCI 2 366 [qr 139] σ (zCall σ (yMark A)) := by
  have hW0 := hW
  obtain ⟨w1, w2, w3, w4⟩ := hW
  have hA0 := hA
  obtain ⟨h1, h2, h3, h4, h5, h6, h7, h8, h9, h10⟩ := hA
  refine (m_mark0 σ h2 w2).mono fun r σ' h => ?_
  unfold yMark
  by_cases e3 : (aM A).1 = 3
  · rw [if_pos e3] at h ⊢
    obtain ⟨rfl, rfl⟩ := h
    exact ⟨rfl, hA0.st hW0 4, zRef.st⟩
  · rw [if_neg e3] at h ⊢
    obtain ⟨rfl, rfl⟩ := h
    have hm : (aM A).1 ≤ 2 := by omega
    generalize hmm : (aM A).1 = m at hm h2 h3 w3 ⊢
    have ea : ∀ a j, ¬ (a = 140 ∧ 456 * (m + 1) ≤ j ∧ j < 456 * (m + 1) + 456) → ¬ (a = 139 ∧ j = 43) → (zlm (zmv (qwi σ 139 43 (nI (m + 1))) 140 0 (456 * (m + 1)) 456) 141 0 (8 * (m + 1)) 8).1 a j = σ.1 a j := fun a j k1 k2 => by
      rw [zlm_1, zmv_1, if_neg k1, qwi_1, if_neg k2]
    have en : ∀ a j, ¬ (a = 141 ∧ 8 * (m + 1) ≤ j ∧ j < 8 * (m + 1) + 8) → (zlm (zmv (qwi σ 139 43 (nI (m + 1))) 140 0 (456 * (m + 1)) 456) 141 0 (8 * (m + 1)) 8).2 a j = σ.2 a j := fun a j k1 => by
      rw [zlm_2, if_neg k1, zmv_2, qwi_2]
    have ec : ∀ j, j < 448 → (zlm (zmv (qwi σ 139 43 (nI (m + 1))) 140 0 (456 * (m + 1)) 456) 141 0 (8 * (m + 1)) 8).1 140 (456 * (m + 1) + j) = σ.1 140 (456 * 0 + j) := fun j hj => by
      rw [zlm_1, zmv_1, if_pos ⟨rfl, by omega, by omega⟩, qwi_1, if_neg (by omega), show 0 + (456 * (m + 1) + j - 456 * (m + 1)) = 456 * 0 + j by omega]
    have ed : ∀ j, j < 8 → (zlm (zmv (qwi σ 139 43 (nI (m + 1))) 140 0 (456 * (m + 1)) 456) 141 0 (8 * (m + 1)) 8).2 141 (8 * (m + 1) + j) = σ.2 141 (8 * 0 + j) := fun j hj => by
      rw [zlm_2, if_pos ⟨rfl, by omega, by omega⟩, zmv_2, qwi_2, show 0 + (8 * (m + 1) + j - 8 * (m + 1)) = 8 * 0 + j by omega]
    have em : (zlm (zmv (qwi σ 139 43 (nI (m + 1))) 140 0 (456 * (m + 1)) 456) 141 0 (8 * (m + 1)) 8).1 139 43 = nI (m + 1) := by
      rw [zlm_1, zmv_1, if_neg (by omega), qwi_1, if_pos ⟨rfl, rfl⟩]
    have fr : zRef σ (zlm (zmv (qwi σ 139 43 (nI (m + 1))) 140 0 (456 * (m + 1)) 456) 141 0 (8 * (m + 1)) 8) := ⟨fun a j hn => ea a j (by omega) (by omega), fun a j hn => en a j (by omega)⟩
    generalize zlm (zmv (qwi σ 139 43 (nI (m + 1))) 140 0 (456 * (m + 1)) 456) 141 0 (8 * (m + 1)) 8 = σ1 at ea en ec ed em fr ⊢
    have WA : zAW (sM A (m + 1, fun i => if i = m + 1 then A.1 else (aM A).2 i)) := by
      refine ⟨w1, (by show m + 1 ≤ 3; omega), fun i i1 i2 => ?_, w4⟩
      have i2 : i ≤ m + 1 := i2
      show zKW (if i = m + 1 then A.1 else (aM A).2 i)
      split
      · exact w1
      · exact w3 i i1 (by omega)
    refine ⟨rfl, zMA.st (A := sM A (m + 1, fun i => if i = m + 1 then A.1 else (aM A).2 i)) ?_ WA 0, fr.tr zRef.st⟩
    refine ⟨h1.kp w1 (fun j hj => ea _ _ (by omega) (by omega)) (fun j hj => en _ _ (by omega)), em, fun i i1 i2 => ?_, ?_, ⟨?_, fun j hj => ?_⟩, ⟨?_, ?_⟩, ?_, ⟨?_, ?_⟩, ⟨?_, fun hd j hj => ?_⟩, fun j hj => ?_⟩
    · have i2 : i ≤ m + 1 := i2
      show zMK σ1 i (if i = m + 1 then A.1 else (aM A).2 i)
      by_cases e : i = m + 1
      · subst e
        rw [if_pos rfl]
        exact h1.cp w1 ec ed
      · rw [if_neg e]
        exact (h3 i i1 (by omega)).kp (w3 i i1 (by omega)) (fun j hj => ea _ _ (by omega) (by omega)) (fun j hj => en _ _ (by omega))
    · exact h4.kp (fun j => ea _ _ (by omega) (by omega)) (fun j => ea _ _ (by omega) (by omega)) (fun j => en _ _ (by omega))
    · rw [ea _ _ (by omega) (by omega)]; exact h5.1
    · rw [ea _ _ (by omega) (by omega)]; exact h5.2 j hj
    · rw [en _ _ (by omega)]; exact h6.1
    · rw [en _ _ (by omega)]; exact h6.2
    · rw [ea _ _ (by omega) (by omega)]; exact h7
    · rw [ea _ _ (by omega) (by omega)]; exact h8.1
    · rw [ea _ _ (by omega) (by omega)]; exact h8.2
    · rw [ea _ _ (by omega) (by omega)]; exact h9.1
    · rw [ea _ _ (by omega) (by omega)]; exact h9.2 hd j hj
    · rw [ea _ _ (by omega) (by omega)]; exact h10 j hj
theorem M_undo {σ : qSg} {A : zA} (hA : zMA σ A) (hW : zAW A) : qCI 2 367 [qr 139] σ (zCall σ (yUndo A)) := by
  have hW0 := hW
  obtain ⟨w1, w2, w3, w4⟩ := hW
  have hA0 := hA
  obtain ⟨h1, h2, h3, h4, h5, h6, h7, h8, h9, h10⟩ := hA
  refine (m_undo0 σ h2 w2).mono fun r σ' h => ?_
  unfold yUndo
  by_cases e3 : (aM A).1 = 0
  · rw [if_pos e3] at h ⊢
    obtain ⟨rfl, rfl⟩ := h
    exact ⟨rfl, hA0.st hW0 6, zRef.st⟩
  · rw [if_neg e3] at h ⊢
    obtain ⟨rfl, rfl⟩ := h
    have hm : 1 ≤ (aM A).1 := by omega
    generalize hmm : (aM A).1 = m at hm h2 h3 w2 w3 ⊢
    have ea : ∀ a j, ¬ (a = 140 ∧ j < 456) → ¬ (a = 139 ∧ j = 43) → (qwi (zlm (zmv σ 140 (456 * m) 0 456) 141 (8 * m) 0 8) 139 43 (nI (m - 1))).1 a j = σ.1 a j := fun a j k1 k2 => by
      rw [qwi_1, if_neg k2, zlm_1, zmv_1, if_neg (by omega)]
    have en : ∀ a j, ¬ (a = 141 ∧ j < 8) → (qwi (zlm (zmv σ 140 (456 * m) 0 456) 141 (8 * m) 0 8) 139 43 (nI (m - 1))).2 a j = σ.2 a j := fun a j k1 => by
      rw [qwi_2, zlm_2, if_neg (by omega), zmv_2]
    have ec : ∀ j, j < 448 → (qwi (zlm (zmv σ 140 (456 * m) 0 456) 141 (8 * m) 0 8) 139 43 (nI (m - 1))).1 140 (456 * 0 + j) = σ.1 140 (456 * m + j) := fun j hj => by
      rw [qwi_1, if_neg (by omega), zlm_1, zmv_1, if_pos ⟨rfl, by omega, by omega⟩, show 456 * m + (456 * 0 + j - 0) = 456 * m + j by omega]
    have ed : ∀ j, j < 8 → (qwi (zlm (zmv σ 140 (456 * m) 0 456) 141 (8 * m) 0 8) 139 43 (nI (m - 1))).2 141 (8 * 0 + j) = σ.2 141 (8 * m + j) := fun j hj => by
      rw [qwi_2, zlm_2, if_pos ⟨rfl, by omega, by omega⟩, zmv_2, show 8 * m + (8 * 0 + j - 0) = 8 * m + j by omega]
    have em : (qwi (zlm (zmv σ 140 (456 * m) 0 456) 141 (8 * m) 0 8) 139 43 (nI (m - 1))).1 139 43 = nI (m - 1) := by
      rw [qwi_1, if_pos ⟨rfl, rfl⟩]
    have fr : zRef σ (qwi (zlm (zmv σ 140 (456 * m) 0 456) 141 (8 * m) 0 8) 139 43 (nI (m - 1))) := ⟨fun a j hn => ea a j (by omega) (by omega), fun a j hn => en a j (by omega)⟩
    generalize qwi (zlm (zmv σ 140 (456 * m) 0 456) 141 (8 * m) 0 8) 139 43 (nI (m - 1)) = σ1 at ea en ec ed em fr ⊢
    have WA : zAW (sM (sK A ((aM A).2 m)) (m - 1, (aM A).2)) := by
      refine ⟨w3 m hm (Nat.le_refl _), (by show m - 1 ≤ 3; omega), fun i i1 i2 => ?_, w4⟩
      have i2 : i ≤ m - 1 := i2
      exact w3 i i1 (by omega)
    refine ⟨rfl, zMA.st (A := sM (sK A ((aM A).2 m)) (m - 1, (aM A).2)) ?_ WA 0, fr.tr zRef.st⟩
    refine ⟨(h3 m hm (Nat.le_refl _)).cp (w3 m hm (Nat.le_refl _)) ec ed, em, fun i i1 i2 => ?_, ?_, ⟨?_, fun j hj => ?_⟩, ⟨?_, ?_⟩, ?_, ⟨?_, ?_⟩, ⟨?_, fun hd j hj => ?_⟩, fun j hj => ?_⟩
    · have i2 : i ≤ m - 1 := i2
      exact (h3 i i1 (by omega)).kp (w3 i i1 (by omega)) (fun j hj => ea _ _ (by omega) (by omega)) (fun j hj => en _ _ (by omega))
    · exact h4.kp (fun j => ea _ _ (by omega) (by omega)) (fun j => ea _ _ (by omega) (by omega)) (fun j => en _ _ (by omega))
    · rw [ea _ _ (by omega) (by omega)]; exact h5.1
    · rw [ea _ _ (by omega) (by omega)]; exact h5.2 j hj
    · rw [en _ _ (by omega)]; exact h6.1
    · rw [en _ _ (by omega)]; exact h6.2
    · rw [ea _ _ (by omega) (by omega)]; exact h7
    · rw [ea _ _ (by omega) (by omega)]; exact h8.1
    · rw [ea _ _ (by omega) (by omega)]; exact h8.2
    · rw [ea _ _ (by omega) (by omega)]; exact h9.1
    · rw [ea _ _ (by omega) (by omega)]; exact h9.2 hd j hj
    · rw [ea _ _ (by omega) (by omega)]; exact h10 j hj
-- who is first
theorem zor_ne {x k : Nat} : x ||| 2 ^ k ≠ 0 := by
  intro h
  have := congrArg (fun n => n.testBit k) h
  simp [Nat.testBit_or, Nat.testBit_two_pow] at this
theorem zyy_ne {C : zC} {q w y : Nat} (hw : w ≠ 0) : zyy C q w y ≠ 0 := by
  unfold zyy
  dsimp only
  by_cases e : w = 1
  · rw [if_pos e, if_neg (by omega)]
    exact zor_ne
  · rw [if_neg e]
    exact zor_ne
theorem zyy_lt {C : zC} {q w y : Nat} (h6 : C 6 q < 8) (h7 : C 7 q < 8) (hy : y < 256) : zyy C q w y < 256 := by
  unfold zyy
  dsimp only
  split <;> split
  · exact hy
  · exact Nat.or_lt_two_pow (n := 8) hy (zpow_lt h6)
  · exact Nat.or_lt_two_pow (n := 8) hy (zpow_lt h7)
  · exact Nat.or_lt_two_pow (n := 8) (Nat.or_lt_two_pow (n := 8) hy (zpow_lt h6)) (zpow_lt h7)
theorem zmf_s (up : Nat) (C : zC) (q : Nat) : zmf up C (q + 1) = if zOpen (zmf up C q).1 q = true ∧ zwho (zmf up C q).1 up q ≠ 0 then (zend (zmf up C q).1 q (zwho (zmf up C q).1 up q), (zmf up C q).2.1 + 1, zyy (zmf up C q).1 q (zwho (zmf up C q).1 up q) (zmf up C q).2.2) else zmf up C q := rfl
theorem zmf_y (up : Nat) (C : zC) : ∀ q, (zmf up C q).2.2 = 0 → (zmf up C q).1 = C
  | 0, _ => rfl
  | q + 1, h => by
    have ih := zmf_y up C q
    rw [zmf_s] at h ⊢
    by_cases g : zOpen (zmf up C q).1 q = true ∧ zwho (zmf up C q).1 up q ≠ 0
    · rw [if_pos g] at h
      dsimp only at h
      exact absurd h (zyy_ne g.2)
    · rw [if_neg g] at h ⊢
      exact ih h
theorem zmf_yl {C : zC} (hw : zW C) (up : Nat) : ∀ q, q ≤ C 0 1 → (zmf up C q).2.2 < 256
  | 0, _ => by show 0 < 256; decide
  | q + 1, h => by
    have ih := zmf_yl hw up q (by omega)
    have g := hw.2.2.2.2.2.2.2.2.2 q (by omega)
    have wb := hw.1
    have e6 := zmf_q C up 6 q (by decide) (by decide) q
    have e7 := zmf_q C up 7 q (by decide) (by decide) q
    rw [zmf_s]
    by_cases gg : zOpen (zmf up C q).1 q = true ∧ zwho (zmf up C q).1 up q ≠ 0
    · rw [if_pos gg]
      dsimp only
      exact zyy_lt (by omega) (by omega) ih
    · rw [if_neg gg]
      exact ih
theorem zmin_y {C : zC} (h : (zmin C).2.2 = 0) (i : Nat) : (zmin C).1 9 i = C 9 i := by
  have := zmf_y (zups C) C (C 0 1) h
  unfold zmin
  show zu (zmf (zups C) C (C 0 1)).1 0 5 (C 0 5 + 1) 9 i = C 9 i
  rw [this, zu_ne (by omega)]
theorem zfst_spec {C : zC} (hw : zW C) (hm : C 0 5 ≤ 99000) (ho : zopens C ≠ 0) : zfst C ≤ 129 ∧ (zmin (zit (zfst C) C)).2.2 ≠ 0 ∧ ∀ m, m < zfst C → (zmin (zit m C)).2.2 = 0 := by
  by_cases e : ∃ N, N < 130 ∧ (zmin (zit N C)).2.2 ≠ 0
  · obtain ⟨N, hN, hp⟩ := e
    have := zlst_spec (fun n => decide ((zmin (zit n C)).2.2 ≠ 0)) 300 0 N (Nat.zero_le _) (by omega) (decide_eq_true hp)
    have a := this.2.2.1
    have b := this.2.2.2
    have e1 : zfst C = zlst (fun n => decide ((zmin (zit n C)).2.2 ≠ 0)) 300 0 := rfl
    rw [← e1] at this a b
    exact ⟨by omega, of_decide_eq_true a, fun m h => by have := of_decide_eq_false (b m (Nat.zero_le _) h); omega⟩
  · have z : ∀ m, m ≤ 130 → ∀ i, zit m C 9 i = C 9 i := by
      intro m
      induction m with
      | zero => exact fun _ _ => rfl
      | succ m ih =>
        intro hm i
        have h0 : (zmin (zit m C)).2.2 = 0 := by
          by_cases g : (zmin (zit m C)).2.2 = 0
          · exact g
          · exact absurd ⟨m, by omega, g⟩ e
        rw [zit_s, zmin_y h0, ih (by omega)]
    refine absurd ?_ ho
    unfold zopens
    apply Nat.eq_of_testBit_eq
    intro i
    rw [bm_bit, Nat.zero_testBit]
    by_cases hi : i < C 0 1
    · have := zit_end hw (n := 130) (by omega) (by omega) hi
      rw [z 130 (by omega)] at this
      unfold zOpen
      rw [decide_eq_false this, Bool.and_false]
    · rw [decide_eq_false hi, Bool.false_and]
theorem zbit_ex {y : Nat} (h : y < 256) (h0 : y ≠ 0) : ∃ b, b < 8 ∧ y.testBit b = true := by
  by_cases e : ∃ b, b < 8 ∧ y.testBit b = true
  · exact e
  · refine absurd (Nat.eq_of_testBit_eq fun i => ?_) h0
    rw [Nat.zero_testBit]
    by_cases hi : i < 8
    · cases hb : y.testBit i with
      | false => rfl
      | true => exact absurd ⟨i, hi, hb⟩ e
    · exact Nat.testBit_lt_two_pow (Nat.lt_of_lt_of_le h (Nat.pow_le_pow_right (n := 2) (by decide) (show 8 ≤ i by omega)))
set_option maxRecDepth 20000 in
theorem M_reveille {σ : qSg} {A : zA} (hA : zMA σ A) (hW : zAW A) : qCI 7 312 [qr 139] σ (zCall σ (yReveille A)) := by
  have hM := hA.m
  have hw := hW.w
  have ho := zopens_lt hw
  have h5 : aC A 0 5 ≤ 9999 := hW.1.2.1
  refine qCI.of [some (qr 139)] ok_312 (Nat.le_of_ble_eq_true rfl) rfl ?_
  refine qV.go 30 [26] ok_312 ?_
  simp only [qW_nop, qW_iconst, qW_bipush, qW_sipush, qW_aloadn, qW_pop, qW_ifne, qW_goto, qW_getf, qW_cs1_0, qW_cv1_0, qW_cv2_0, qW_cv2_2, qW_iret0, qW_putf0, Nat.reduceAdd, Nat.reduceMul, Nat.reduceBEq, Nat.reduceEqDiff, Nat.reduceLT, Nat.reduceLeDiff, Nat.zero_le, nI_add, nI_mul, nI_cl, qin_eq, qofI, qlg_0, qlg_s, qls_i0, qls_r0, qls_l0, qls_1, qls_2, qkl_i, qkl_r, qkl_l, qkl_n, qIsI_i, qIsL_l, qIsR_r, qint_i, qil_i, qil_r, qil_l, qf4_0, qf4_1, qf4_2, qf4_3, qf2_0, qf2_1, qcs_n, qcs_i, qcs_r, qcs_l, qst_n, qst_c, qJ_0, qJ_st, qJ_go, qfl_I, qfl_Z, qfl_L, qfl_R, qrI_i, qrL_l, qrV_v, qRcv_0, qRcv_s, eq_self, true_and, and_true, true_or, or_true, false_and, and_false, false_or, or_false, ite_true, if_true, if_false, Bool.true_or, Bool.false_or, Bool.or_false, beq_self_eq_true, Bool.false_eq_true, bX12_reveille_0, bX12_reveille_14, bX12_reveille_26, bX12_reveille_41, kX12_reveille_0, kX12_reveille_14, kX12_reveille_26, kX12_reveille_41, qK_139, qR_139_0, qK_140, qR_139_1, qK_141, qR_139_5, qK_142, qR_139_6, qK_143, qR_139_7, qK_144, qR_139_8, qK_145, qR_139_9, qK_146, qR_139_21, qK_147, qR_139_25, qK_148, qR_139_30, qK_149, qR_139_31, qK_150, qR_139_33, qK_151, qR_139_34, qK_152, qR_139_35, qK_153, qR_139_36, qK_154, qR_139_39, qK_155, qR_139_40, qK_156, qR_139_41, qK_157]
  refine qBI.fn (m_openOnes hM hw) (by decide) ?_
  simp (disch := omega) only [nI_leI, nI_ltI, nI_eq, nI_cl, qin_eq, nI_add, nI_mul, qb_z, qb_t, qb_f, nI_ne0', Nat.reduceAdd, Bool.false_eq_true, if_false, if_true, true_and, and_true, Nat.reduceEqDiff, not_true_eq_false, not_false_eq_true, false_implies, true_implies, ite_true, ite_false]
  refine ⟨fun g => ?_, fun g => e_no hA hW zRef.rf (by decide) (by unfold yReveille; rw [if_pos g]; rfl)⟩
  have eY : yReveille A = yOk A (nI (zlow (zmin (zit (zfst (aC A)) (aC A))).2.2)) := by unfold yReveille; rw [if_neg g]
  rw [eY]
  obtain ⟨s1, s2, s3⟩ := zfst_spec hw (by omega) g
  refine qBV.of (m_keeps σ (by decide) (by decide)) (by decide) (fun σ1 h1 => ?_)
  subst h1
  have a1 := zkeep_M hM hw (t := 2280) (by decide)
  refine qdown (n := zfst (aC A)) (P := fun k => ∀ σ2, zM σ2 0 (zit k (aC A)) → zF zPm (zmv σ 140 0 2280 88) σ2 → σ2.1 139 24 = nI 0 → qV 312 7 (.inl (zCall σ (yOk A (nI (zlow (zmin (zit (zfst (aC A)) (aC A))).2.2))))) 26 [some (qr 139)] [] σ2) (fun k hk ih => ?_) 0 (Nat.zero_le _) _ (zM_wi a1 (by decide) hw) (zF.wi (Or.inr ⟨rfl, by decide⟩)) (by rw [qwi_1, if_pos ⟨rfl, rfl⟩])
  intro σ2 b1 f2 y2
  refine qV.go 30 [26] ok_312 ?_
  simp only [qW_nop, qW_iconst, qW_bipush, qW_sipush, qW_aloadn, qW_pop, qW_ifne, qW_goto, qW_getf, qW_cs1_0, qW_cv1_0, qW_cv2_0, qW_cv2_2, qW_iret0, qW_putf0, Nat.reduceAdd, Nat.reduceMul, Nat.reduceBEq, Nat.reduceEqDiff, Nat.reduceLT, Nat.reduceLeDiff, Nat.zero_le, nI_add, nI_mul, nI_cl, qin_eq, qofI, qlg_0, qlg_s, qls_i0, qls_r0, qls_l0, qls_1, qls_2, qkl_i, qkl_r, qkl_l, qkl_n, qIsI_i, qIsL_l, qIsR_r, qint_i, qil_i, qil_r, qil_l, qf4_0, qf4_1, qf4_2, qf4_3, qf2_0, qf2_1, qcs_n, qcs_i, qcs_r, qcs_l, qst_n, qst_c, qJ_0, qJ_st, qJ_go, qfl_I, qfl_Z, qfl_L, qfl_R, qrI_i, qrL_l, qrV_v, qRcv_0, qRcv_s, eq_self, true_and, and_true, true_or, or_true, false_and, and_false, false_or, or_false, ite_true, if_true, if_false, Bool.true_or, Bool.false_or, Bool.or_false, beq_self_eq_true, Bool.false_eq_true, bX12_reveille_0, bX12_reveille_14, bX12_reveille_26, bX12_reveille_41, kX12_reveille_0, kX12_reveille_14, kX12_reveille_26, kX12_reveille_41, qK_139, qR_139_0, qK_140, qR_139_1, qK_141, qR_139_5, qK_142, qR_139_6, qK_143, qR_139_7, qK_144, qR_139_8, qK_145, qR_139_9, qK_146, qR_139_21, qK_147, qR_139_25, qK_148, qR_139_30, qK_149, qR_139_31, qK_150, qR_139_33, qK_151, qR_139_34, qK_152, qR_139_35, qK_153, qR_139_36, qK_154, qR_139_39, qK_155, qR_139_40, qK_156, qR_139_41, qK_157]
  rw [y2]
  simp (disch := omega) only [nI_leI, nI_ltI, nI_eq, nI_cl, qin_eq, nI_add, nI_mul, qb_z, qb_t, qb_f, nI_ne0', Nat.reduceAdd, Bool.false_eq_true, if_false, if_true, true_and, and_true, Nat.reduceEqDiff, not_true_eq_false, not_false_eq_true, false_implies, true_implies, ite_true, ite_false]
  refine qBI.of (m_minuteGoes b1 (zit_W hw k (by omega)) (by rw [zit_clock]; omega)) (by decide) (fun r σ3 h3 => ?_)
  obtain ⟨-, c1, f3, y3⟩ := h3
  have hlt : (zmin (zit k (aC A))).2.2 < 256 := zmf_yl (zit_W hw k (by omega)) _ _ (Nat.le_refl _)
  by_cases e : k = zfst (aC A)
  · subst e
    refine qV.go 30 [9999] ok_312 ?_
    simp only [qW_nop, qW_iconst, qW_bipush, qW_sipush, qW_aloadn, qW_pop, qW_ifne, qW_goto, qW_getf, qW_cs1_0, qW_cv1_0, qW_cv2_0, qW_cv2_2, qW_iret0, qW_putf0, Nat.reduceAdd, Nat.reduceMul, Nat.reduceBEq, Nat.reduceEqDiff, Nat.reduceLT, Nat.reduceLeDiff, Nat.zero_le, nI_add, nI_mul, nI_cl, qin_eq, qofI, qlg_0, qlg_s, qls_i0, qls_r0, qls_l0, qls_1, qls_2, qkl_i, qkl_r, qkl_l, qkl_n, qIsI_i, qIsL_l, qIsR_r, qint_i, qil_i, qil_r, qil_l, qf4_0, qf4_1, qf4_2, qf4_3, qf2_0, qf2_1, qcs_n, qcs_i, qcs_r, qcs_l, qst_n, qst_c, qJ_0, qJ_st, qJ_go, qfl_I, qfl_Z, qfl_L, qfl_R, qrI_i, qrL_l, qrV_v, qRcv_0, qRcv_s, eq_self, true_and, and_true, true_or, or_true, false_and, and_false, false_or, or_false, ite_true, if_true, if_false, Bool.true_or, Bool.false_or, Bool.or_false, beq_self_eq_true, Bool.false_eq_true, bX12_reveille_0, bX12_reveille_14, bX12_reveille_26, bX12_reveille_41, kX12_reveille_0, kX12_reveille_14, kX12_reveille_26, kX12_reveille_41, qK_139, qR_139_0, qK_140, qR_139_1, qK_141, qR_139_5, qK_142, qR_139_6, qK_143, qR_139_7, qK_144, qR_139_8, qK_145, qR_139_9, qK_146, qR_139_21, qK_147, qR_139_25, qK_148, qR_139_30, qK_149, qR_139_31, qK_150, qR_139_33, qK_151, qR_139_34, qK_152, qR_139_35, qK_153, qR_139_36, qK_154, qR_139_39, qK_155, qR_139_40, qK_156, qR_139_41, qK_157]
    rw [y3]
    simp (disch := omega) only [nI_leI, nI_ltI, nI_eq, nI_cl, qin_eq, nI_add, nI_mul, qb_z, qb_t, qb_f, nI_ne0', Nat.reduceAdd, Bool.false_eq_true, if_false, if_true, true_and, and_true, Nat.reduceEqDiff, not_true_eq_false, not_false_eq_true, false_implies, true_implies, ite_true, ite_false]
    refine ⟨fun _ => ?_, fun hh => absurd hh s2⟩
    refine qBV.of (m_restores σ3 (by decide) (by decide)) (by decide) (fun σ4 h4 => ?_)
    subst h4
    have S := hA.scr hW (zback (by decide) (f2.tr f3)) zPk_s
    rw [zmv_1, if_neg (by omega), y3]
    obtain ⟨b, hb, hbit⟩ := zbit_ex hlt s2
    have hs := zlow_spec (by omega) hbit
    refine qBI.fn (m_firstOf _ (by omega) _ (by omega) hs.2.1 hs.2.2) (by decide) ?_
    exact e_ok S.1 hW S.2 (by decide) rfl
  · have y0 := s3 k (by omega)
    rw [y0] at y3
    exact ih (by omega) σ3 c1 (f2.tr f3) y3
