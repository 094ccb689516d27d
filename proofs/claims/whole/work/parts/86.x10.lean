/-! the class: a look ahead, walked -/
set_option maxRecDepth 20000 in
theorem x_look {σ : qSg} {s : Nat} {C : zC} (hs : zCb s) (hne : 26 ≠ s) (h : zX σ s C) (hw : zW C) (hm : C 0 5 ≤ 99000) : qCI 4 1 [qr 25, qr s] σ (fun v σ' => v = nI (zbrk C) ∧ zX σ' 26 (zit (zbrk C) C) ∧ (∀ b, b < C 0 0 → σ'.1 38 b = nI (zupb C b)) ∧ (∀ q, q < C 0 1 → σ'.1 39 q = nI (zover C q)) ∧ σ'.1 25 3 = (if zopens C = 0 then iI (-1) else nI (zlow (zmin (zit (zfst C) C)).2.2)) ∧ zG zPlk (fun a _ => a = 27) σ σ') := by
  have hw' := hw
  obtain ⟨wb, wq, ww1, ww2, wh1, wh2, wo, wm, wB, wQ⟩ := hw'
  have hcl : zcount (zOpen C) (C 0 1) ≤ C 0 1 := zcount_le _ _
  refine qCI.of [some (qr 25), some (qr s), none, none, none, none] ok_1 (Nat.le_of_ble_eq_true rfl) rfl ?_
  refine qV.go 30 [30] ok_1 ?_
  simp only [qW_nop, qW_iconst, qW_iconstm, qW_bipush, qW_iloadn, qW_iload, qW_aloadn, qW_istoren, qW_istore, qW_iinc, qW_isub, qW_ifeq, qW_icne, qW_icge, qW_goto, qW_getf, qW_cs1_0, qW_cv1_0, qW_cv1_2, qW_cv2_2, qW_mmax, qW_iret0, qW_putf0, Nat.reduceAdd, Nat.reduceMul, Nat.reduceBEq, Nat.reduceEqDiff, Nat.reduceLT, Nat.reduceLeDiff, Nat.zero_le, nI_add, nI_mul, nI_cl, qin_eq, qofI, qlg_0, qlg_s, qls_i0, qls_r0, qls_l0, qls_1, qls_2, qkl_i, qkl_r, qkl_l, qkl_n, qIsI_i, qIsL_l, qIsR_r, qint_i, qil_i, qil_r, qil_l, qf4_0, qf4_1, qf4_2, qf4_3, qf2_0, qf2_1, qcs_n, qcs_i, qcs_r, qcs_l, qst_n, qst_c, qJ_0, qJ_st, qJ_go, qfl_I, qfl_Z, qfl_L, qfl_R, qrI_i, qrL_l, qrV_v, qRcv_0, qRcv_s, eq_self, true_and, and_true, true_or, or_true, false_and, and_false, false_or, or_false, ite_true, if_true, if_false, Bool.true_or, Bool.false_or, Bool.or_false, beq_self_eq_true, Bool.false_eq_true, bX0_look_0, bX0_look_30, bX0_look_97, bX0_look_118, kX0_look_0, kX0_look_30, kX0_look_97, kX0_look_118, qK_25, qR_25_0, qK_26, qR_25_1, qK_38, qR_25_2, qK_39, qK_26, qR_26_6, qK_27, qR_26_7, qK_28, qR_26_8, qK_29, qR_26_9, qK_30, qR_26_10, qK_31, qR_26_11, qK_32, qR_26_12, qK_33, qR_26_13, qK_34, qR_26_14, qK_35, qR_26_15, qK_36, qR_26_16, qK_37, zCb_k hs]
  refine qBV.of (x_copy zCb_l hs hne h hw) (by decide) (fun σ1 g1 => ?_)
  obtain ⟨x1, -, f1⟩ := g1
  have x2 : zX (qwi σ1 25 3 (iI (-1))) 26 C := x1.fr fun a j h1 h2 => by rw [qwi_1, if_neg (by omega)]
  refine qBV.of (x_begin x2 hw) (by decide) (fun σ2 g2 => ?_)
  obtain ⟨u2, o2, f2⟩ := g2
  have x3 : zX σ2 26 C := x2.fr fun a j h1 h2 => f2.1 a j (by unfold zPah; omega)
  have e3 : σ2.1 26 3 = nI (C 0 5) := x3.1.m
  have fr2 : zG zPlk (fun a _ => a = 27) σ σ2 := by
    refine zG.tr (f1.wk (fun a j hh => by unfold zXf at hh; unfold zPlk; omega) (fun a j hh => hh)) (zG.tr (σ1 := qwi σ1 25 3 (iI (-1))) (zG.wi (Or.inr ⟨rfl, rfl⟩)) (f2.g fun a j hh => by unfold zPah at hh; unfold zPlk; omega))
  have z0 : ∀ b, zUp C b = true → zupb C b = 0 := fun b hb => zlst_is _ _ _ _ (Nat.zero_le _) (by omega) hb (fun m _ h2 => absurd h2 (Nat.not_lt_zero _))
  have o0 : ∀ q, zOpen C q = false → zover C q = 0 := fun q hq => zlst_is _ _ _ _ (Nat.zero_le _) (by omega) (decide_eq_true (of_decide_eq_false hq)) (fun m _ h2 => absurd h2 (Nat.not_lt_zero _))
  have L0 : zLk σ2 C 0 := by
    refine ⟨x3, fun b hb => ?_, fun q hq => ?_, Or.inl ⟨?_, rfl⟩, Or.inl rfl⟩
    · rw [u2 b hb]
      show (if zUp C b = true then _ else _) = if zUp C b = true then _ else _
      by_cases e : zUp C b = true
      · rw [if_pos e, if_pos e, z0 b e]
      · rw [if_neg e, if_neg e]
    · rw [o2 q hq]
      show (if zOpen C q = true then _ else _) = if zOpen C q = true then _ else _
      by_cases e : zOpen C q = true
      · rw [if_pos e, if_pos e]
      · rw [if_neg e, if_neg e, o0 q (by simpa using e)]
    · rw [f2.1 _ _ (by unfold zPah; omega), qwi_1, if_pos ⟨rfl, rfl⟩]
  rw [e3]
  have fin : ∀ σ3 k (l5 : Option qPV) i, k ≤ 130 → zLk σ3 C k → zG zPlk (fun a _ => a = 27) σ σ3 → zcount (zOpen (zit k C)) (C 0 1) = 0 → qV 1 4 (.inl fun v σ' => v = nI (zbrk C) ∧ zX σ' 26 (zit (zbrk C) C) ∧ (∀ b, b < C 0 0 → σ'.1 38 b = nI (zupb C b)) ∧ (∀ q, q < C 0 1 → σ'.1 39 q = nI (zover C q)) ∧ σ'.1 25 3 = (if zopens C = 0 then iI (-1) else nI (zlow (zmin (zit (zfst C) C)).2.2)) ∧ zG zPlk (fun a _ => a = 27) σ σ') 118 [some (qr 25), some (qr s), some (qi (nI (C 0 5))), some (qi (nI k)), some (qi (nI i)), l5] [] σ3 := by
    intro σ3 k l5 i hk L f3 hc
    obtain ⟨a1, a2, a3, a4, a5⟩ := L
    obtain ⟨eb, up⟩ := zbrk_is hw hm hk hc a5
    refine qV.go 30 [9999] ok_1 ?_
    simp only [qW_nop, qW_iconst, qW_iconstm, qW_bipush, qW_iloadn, qW_iload, qW_aloadn, qW_istoren, qW_istore, qW_iinc, qW_isub, qW_ifeq, qW_icne, qW_icge, qW_goto, qW_getf, qW_cs1_0, qW_cv1_0, qW_cv1_2, qW_cv2_2, qW_mmax, qW_iret0, qW_putf0, Nat.reduceAdd, Nat.reduceMul, Nat.reduceBEq, Nat.reduceEqDiff, Nat.reduceLT, Nat.reduceLeDiff, Nat.zero_le, nI_add, nI_mul, nI_cl, qin_eq, qofI, qlg_0, qlg_s, qls_i0, qls_r0, qls_l0, qls_1, qls_2, qkl_i, qkl_r, qkl_l, qkl_n, qIsI_i, qIsL_l, qIsR_r, qint_i, qil_i, qil_r, qil_l, qf4_0, qf4_1, qf4_2, qf4_3, qf2_0, qf2_1, qcs_n, qcs_i, qcs_r, qcs_l, qst_n, qst_c, qJ_0, qJ_st, qJ_go, qfl_I, qfl_Z, qfl_L, qfl_R, qrI_i, qrL_l, qrV_v, qRcv_0, qRcv_s, eq_self, true_and, and_true, true_or, or_true, false_and, and_false, false_or, or_false, ite_true, if_true, if_false, Bool.true_or, Bool.false_or, Bool.or_false, beq_self_eq_true, Bool.false_eq_true, bX0_look_0, bX0_look_30, bX0_look_97, bX0_look_118, kX0_look_0, kX0_look_30, kX0_look_97, kX0_look_118, qK_25, qR_25_0, qK_26, qR_25_1, qK_38, qR_25_2, qK_39, qK_26, qR_26_6, qK_27, qR_26_7, qK_28, qR_26_8, qK_29, qR_26_9, qK_30, qR_26_10, qK_31, qR_26_11, qK_32, qR_26_12, qK_33, qR_26_13, qK_34, qR_26_14, qK_35, qR_26_15, qK_36, qR_26_16, qK_37]
    rw [eb]
    have e1 : (zit k C) 0 1 = C 0 1 := zit_q _ _ _ (by decide) (by decide) (by decide) k
    have hno : ∀ q, q < C 0 1 → zOpen (zit k C) q = false := fun q hq => by
      cases e : zOpen (zit k C) q with
      | false => rfl
      | true =>
        have g := wQ q hq
        have := (zUp_iff _ _).mp (up (C 6 q)) q (by omega) (by rw [zin_it]; unfold zin; simp)
        exact absurd (of_decide_eq_true e) this
    refine ⟨rfl, a1, fun b hb => ?_, fun q hq => ?_, ?_, f3⟩
    · rw [a2 b hb, if_pos (up b)]
    · rw [a3 q hq, if_neg (by rw [hno q hq]; decide)]
    · have hz : (zopens C = 0) = (k = 0) := by
        apply propext
        constructor
        · intro hz
          rcases a5 with a5 | a5
          · exact a5
          · exfalso
            obtain ⟨q, hq, hqo⟩ := zcount_pos (p := zOpen (zit (k - 1) C)) (C 0 1) (by omega)
            have hq0 : zOpen C q = true := zopen_mono hq (Nat.zero_le _) hqo
            have := bm_bit (C 0 1) (zOpen C) q
            unfold zopens at hz
            rw [hz, Nat.zero_testBit, hq0] at this
            simp [hq] at this
        · intro hk0
          subst hk0
          unfold zopens
          apply Nat.eq_of_testBit_eq
          intro i
          rw [bm_bit, Nat.zero_testBit]
          by_cases hi : i < C 0 1
          · have : zOpen C i = false := hno i hi
            rw [this, Bool.and_false]
          · rw [decide_eq_false hi, Bool.false_and]
      rcases a4 with ⟨b1, b2⟩ | ⟨b1, b2⟩
      · rw [b1, if_pos (by rw [hz]; exact b2)]
      · rw [b1, if_neg (by rw [hz]; omega)]
  refine qdown (n := 10) (P := fun i => ∀ σ3 k (l5 : Option qPV), k ≤ 130 → zLk σ3 C k → zG zPlk (fun a _ => a = 27) σ σ3 → zcount (zOpen (zit k C)) (C 0 1) + i ≤ zcount (zOpen C) (C 0 1) → qV 1 4 (.inl fun v σ' => v = nI (zbrk C) ∧ zX σ' 26 (zit (zbrk C) C) ∧ (∀ b, b < C 0 0 → σ'.1 38 b = nI (zupb C b)) ∧ (∀ q, q < C 0 1 → σ'.1 39 q = nI (zover C q)) ∧ σ'.1 25 3 = (if zopens C = 0 then iI (-1) else nI (zlow (zmin (zit (zfst C) C)).2.2)) ∧ zG zPlk (fun a _ => a = 27) σ σ') 30 [some (qr 25), some (qr s), some (qi (nI (C 0 5))), some (qi (nI k)), some (qi (nI i)), l5] [] σ3) (fun i hi ih => ?_) 0 (Nat.zero_le _) σ2 0 none (by omega) L0 fr2 (Nat.le_refl _)
  intro σ3 k l5 hk L f3 hc
  have L' := L
  obtain ⟨a1, a2, a3, a4, a5⟩ := L'
  have wk := zit_W hw k (by omega)
  have ek := zit_clock C k
  have e1 : (zit k C) 0 1 = C 0 1 := zit_q _ _ _ (by decide) (by decide) (by decide) k
  have zb : -72 ≤ zear (zit k C) ∧ zear (zit k C) ≤ 1000000 := zearf_bd wk (zups (zit k C)) (zit k C 0 1) (Nat.le_refl _)
  have ol := zopens_lt wk
  have em : σ3.1 26 3 = nI (zit k C 0 5) := a1.1.m
  refine qV.go 30 [30, 97, 118] ok_1 ?_
  simp only [qW_nop, qW_iconst, qW_iconstm, qW_bipush, qW_iloadn, qW_iload, qW_aloadn, qW_istoren, qW_istore, qW_iinc, qW_isub, qW_ifeq, qW_icne, qW_icge, qW_goto, qW_getf, qW_cs1_0, qW_cv1_0, qW_cv1_2, qW_cv2_2, qW_mmax, qW_iret0, qW_putf0, Nat.reduceAdd, Nat.reduceMul, Nat.reduceBEq, Nat.reduceEqDiff, Nat.reduceLT, Nat.reduceLeDiff, Nat.zero_le, nI_add, nI_mul, nI_cl, qin_eq, qofI, qlg_0, qlg_s, qls_i0, qls_r0, qls_l0, qls_1, qls_2, qkl_i, qkl_r, qkl_l, qkl_n, qIsI_i, qIsL_l, qIsR_r, qint_i, qil_i, qil_r, qil_l, qf4_0, qf4_1, qf4_2, qf4_3, qf2_0, qf2_1, qcs_n, qcs_i, qcs_r, qcs_l, qst_n, qst_c, qJ_0, qJ_st, qJ_go, qfl_I, qfl_Z, qfl_L, qfl_R, qrI_i, qrL_l, qrV_v, qRcv_0, qRcv_s, eq_self, true_and, and_true, true_or, or_true, false_and, and_false, false_or, or_false, ite_true, if_true, if_false, Bool.true_or, Bool.false_or, Bool.or_false, beq_self_eq_true, Bool.false_eq_true, bX0_look_0, bX0_look_30, bX0_look_97, bX0_look_118, kX0_look_0, kX0_look_30, kX0_look_97, kX0_look_118, qK_25, qR_25_0, qK_26, qR_25_1, qK_38, qR_25_2, qK_39, qK_26, qR_26_6, qK_27, qR_26_7, qK_28, qR_26_8, qK_29, qR_26_9, qK_30, qR_26_10, qK_31, qR_26_11, qK_32, qR_26_12, qK_33, qR_26_13, qK_34, qR_26_14, qK_35, qR_26_15, qK_36, qR_26_16, qK_37]
  simp (disch := omega) only [nI_leI, nI_ltI, nI_eq, nI_cl, qin_eq, nI_add, nI_mul, qb_z, qb_t, qb_f, nI_ne0', Nat.reduceAdd, Bool.false_eq_true, if_false, if_true, true_and, and_true, Nat.reduceEqDiff, not_true_eq_false, not_false_eq_true, false_implies, true_implies, ite_true, ite_false]
  refine ⟨fun g => fin σ3 k _ _ hk L f3 (by omega), fun g => ?_⟩
  refine qBI.fn (x_openSet zCb_l a1.1 wk) (by decide) ?_
  have oz : (zopens (zit k C) = 0) = (zcount (zOpen (zit k C)) (C 0 1) = 0) := by
    have : zpop (zopens (zit k C)) = zcount (zOpen (zit k C)) (C 0 1) := by
      unfold zopens
      rw [zpop_bm (by omega), e1]
    rw [← this, zpop_0' (by omega)]
  simp (disch := omega) only [nI_leI, nI_ltI, nI_eq, nI_cl, qin_eq, nI_add, nI_mul, qb_z, qb_t, qb_f, nI_ne0', Nat.reduceAdd, Bool.false_eq_true, if_false, if_true, true_and, and_true, Nat.reduceEqDiff, not_true_eq_false, not_false_eq_true, false_implies, true_implies, ite_true, ite_false]
  rw [oz]
  refine ⟨fun h0 => fin σ3 k _ _ hk L f3 h0, fun h0 => ?_⟩
  rw [em]
  refine qBI.fn (x_earliest zCb_l a1 wk) (by decide) ?_
  rw [iI_nat, qmax_i (by omega) (by omega) (by omega) (by omega)]
  obtain ⟨M, hM⟩ : ∃ M : Nat, max ((zit k C 0 5 : Nat) : Int) (zear (zit k C)) = M := ⟨(max ((zit k C 0 5 : Nat) : Int) (zear (zit k C))).toNat, by omega⟩
  obtain ⟨t1, t2, t3, t4, t5, t6, t7, t8, t9⟩ := zah hw hm h0 hk hM
  rw [hM, ← iI_nat]
  generalize hk1 : k + (M - (C 0 5 + k)) = k1 at t1 t2 t3 t4 t5 t6 t7 t8 t9
  have hkk : k ≤ k1 := by omega
  have wk1 := zit_W hw k1 (by omega)
  have a6 : zX (qwi σ3 26 3 (nI M)) 26 (zit k1 C) := t1 ▸ a1.um
  refine qBI.of (x_minute zCb_l a6 wk1 (by rw [zit_clock]; omega)) (by decide) (fun v σ4 g4 => ?_)
  obtain ⟨rfl, b1, b2⟩ := g4
  have b1 : zX σ4 26 (zit (k1 + 1) C) := b1
  have yl : (zmin (zit k1 C)).2.2 < 256 := zmf_yl wk1 _ _ (Nat.le_refl _)
  have f4 : zG zPlk (fun a _ => a = 27) σ σ4 := f3.tr (zG.tr (zG.wi (Or.inl ⟨by omega, by omega⟩)) (b2.g fun a j hh => by unfold zXf at hh; unfold zPlk; omega))
  have k38 : ∀ j, σ4.1 38 j = σ3.1 38 j := fun j => by rw [b2.1 _ _ (by unfold zXf; omega), qwi_1, if_neg (by omega)]
  have k39 : ∀ j, σ4.1 39 j = σ3.1 39 j := fun j => by rw [b2.1 _ _ (by unfold zXf; omega), qwi_1, if_neg (by omega)]
  have k25 : σ4.1 25 3 = σ3.1 25 3 := by rw [b2.1 _ _ (by unfold zXf; omega), qwi_1, if_neg (by omega)]
  have w2 := zit_W hw (k1 + 1) (by omega)
  have e12 : (zit (k1 + 1) C) 0 1 = C 0 1 := zit_q _ _ _ (by decide) (by decide) (by decide) (k1 + 1)
  have e02 : (zit (k1 + 1) C) 0 0 = C 0 0 := zit_q _ _ _ (by decide) (by decide) (by decide) (k1 + 1)
  have nx : ∀ σ5 l5, (∀ a j, ¬ (a = 25 ∧ j = 3) → σ5.1 a j = σ4.1 a j) → σ5.2 = σ4.2 → σ5.1 25 3 = nI (zlow (zmin (zit (zfst C) C)).2.2) → qV 1 4 (.inl fun v σ' => v = nI (zbrk C) ∧ zX σ' 26 (zit (zbrk C) C) ∧ (∀ b, b < C 0 0 → σ'.1 38 b = nI (zupb C b)) ∧ (∀ q, q < C 0 1 → σ'.1 39 q = nI (zover C q)) ∧ σ'.1 25 3 = (if zopens C = 0 then iI (-1) else nI (zlow (zmin (zit (zfst C) C)).2.2)) ∧ zG zPlk (fun a _ => a = 27) σ σ') 97 [some (qr 25), some (qr s), some (qi (nI (C 0 5))), some (qi (nI k)), some (qi (nI i)), l5] [] σ5 := by
    intro σ5 l5 c1 c2 c3
    have x5 : zX σ5 26 (zit (k1 + 1) C) := b1.fr fun a j h1 h2 => c1 a j (by omega)
    have m5 : σ5.1 26 3 = nI (C 0 5 + (k1 + 1)) := by rw [← zit_clock]; exact x5.1.m
    have f5 : zG zPlk (fun a _ => a = 27) σ σ5 := f4.tr ⟨fun a j hn => c1 a j (fun hh => hn (Or.inr hh)), fun a j hn => by rw [c2]⟩
    refine qV.go 30 [30] ok_1 ?_
    simp only [qW_nop, qW_iconst, qW_iconstm, qW_bipush, qW_iloadn, qW_iload, qW_aloadn, qW_istoren, qW_istore, qW_iinc, qW_isub, qW_ifeq, qW_icne, qW_icge, qW_goto, qW_getf, qW_cs1_0, qW_cv1_0, qW_cv1_2, qW_cv2_2, qW_mmax, qW_iret0, qW_putf0, Nat.reduceAdd, Nat.reduceMul, Nat.reduceBEq, Nat.reduceEqDiff, Nat.reduceLT, Nat.reduceLeDiff, Nat.zero_le, nI_add, nI_mul, nI_cl, qin_eq, qofI, qlg_0, qlg_s, qls_i0, qls_r0, qls_l0, qls_1, qls_2, qkl_i, qkl_r, qkl_l, qkl_n, qIsI_i, qIsL_l, qIsR_r, qint_i, qil_i, qil_r, qil_l, qf4_0, qf4_1, qf4_2, qf4_3, qf2_0, qf2_1, qcs_n, qcs_i, qcs_r, qcs_l, qst_n, qst_c, qJ_0, qJ_st, qJ_go, qfl_I, qfl_Z, qfl_L, qfl_R, qrI_i, qrL_l, qrV_v, qRcv_0, qRcv_s, eq_self, true_and, and_true, true_or, or_true, false_and, and_false, false_or, or_false, ite_true, if_true, if_false, Bool.true_or, Bool.false_or, Bool.or_false, beq_self_eq_true, Bool.false_eq_true, bX0_look_0, bX0_look_30, bX0_look_97, bX0_look_118, kX0_look_0, kX0_look_30, kX0_look_97, kX0_look_118, qK_25, qR_25_0, qK_26, qR_25_1, qK_38, qR_25_2, qK_39, qK_26, qR_26_6, qK_27, qR_26_7, qK_28, qR_26_8, qK_29, qR_26_9, qK_30, qR_26_10, qK_31, qR_26_11, qK_32, qR_26_12, qK_33, qR_26_13, qK_34, qR_26_14, qK_35, qR_26_15, qK_36, qR_26_16, qK_37]
    rw [m5, nI_sub (by omega), Nat.add_sub_cancel_left]
    refine qBV.of (x_note x5 w2) (by decide) (fun σ6 g6 => ?_)
    obtain ⟨d1, d2, d3⟩ := g6
    have x6 : zX σ6 26 (zit (k1 + 1) C) := x5.fr fun a j h1 h2 => d3.1 a j (by unfold zPah; omega)
    have ub : ∀ b, zupb C b ≤ 130 := fun b => (zupb_spec hw hm b).1
    refine ih (by omega) σ6 (k1 + 1) _ (by omega) ⟨x6, fun b hb => ?_, fun q hq => ?_, Or.inr ⟨?_, by omega⟩, Or.inr ?_⟩ (f5.tr (d3.g fun a j hh => by unfold zPah at hh; unfold zPlk; omega)) (by omega)
    · have h5 : σ5.1 38 b = if zUp (zit k C) b = true then nI (zupb C b) else iI (-1) := by rw [c1 _ _ (by omega), k38, a2 b hb]
      rw [d1 b (by omega)]
      cases e : zUp (zit k C) b with
      | true =>
        have up2 := zUp_mono (show k ≤ k1 + 1 by omega) e
        have := ub b
        have hne2 : ¬ nI (zupb C b) = iI (-1) := by
          rw [iI_nat, qeq, iI_toInt (by omega) (by omega)]
          intro hh
          have : (iI (-1)).toInt = -1 := rfl
          omega
        rw [e, if_pos rfl] at h5
        rw [h5, up2]
        exact (if_neg (fun hh => hne2 hh.1)).trans (if_pos rfl).symm
      | false =>
        rw [e] at h5
        have h5 : σ5.1 38 b = iI (-1) := h5
        rw [h5]
        cases e2 : zUp (zit (k1 + 1) C) b with
        | true =>
          refine (if_pos ⟨rfl, rfl⟩).trans ?_
          rw [zLk.up hw hm t2 hkk t3 e e2]
          exact (if_pos rfl).symm
        | false => exact (if_neg (fun hh => Bool.false_ne_true hh.2)).trans (if_neg Bool.false_ne_true).symm
    · have h5 : σ5.1 39 q = if zOpen (zit k C) q = true then iI (-1) else nI (zover C q) := by rw [c1 _ _ (by omega), k39, a3 q hq]
      rw [d2 q (by omega)]
      have ob := (zover_spec hw hm hq).1
      have hne2 : ¬ nI (zover C q) = iI (-1) := by
        rw [iI_nat, qeq, iI_toInt (by omega) (by omega)]
        intro hh
        have : (iI (-1)).toInt = -1 := rfl
        omega
      cases e : zOpen (zit k C) q with
      | false =>
        have e2 : zOpen (zit (k1 + 1) C) q = false := by
          cases e2 : zOpen (zit (k1 + 1) C) q with
          | false => rfl
          | true =>
            have := zopen_mono hq (show k ≤ k1 + 1 by omega) e2
            rw [e] at this
            cases this
        rw [e] at h5
        have h5 : σ5.1 39 q = nI (zover C q) := h5
        rw [h5, e2]
        exact (if_neg (fun hh => hne2 hh.1)).trans (if_neg Bool.false_ne_true).symm
      | true =>
        rw [e, if_pos rfl] at h5
        rw [h5]
        cases e2 : zOpen (zit (k1 + 1) C) q with
        | true => exact (if_neg (fun hh => Bool.false_ne_true hh.2.symm)).trans (if_pos rfl).symm
        | false =>
          refine (if_pos ⟨rfl, rfl⟩).trans ?_
          rw [zLk.ov hw hm hq t2 hkk t3 e e2]
          exact (if_neg Bool.false_ne_true).symm
    · rw [d3.1 _ _ (by unfold zPah; omega)]; exact c3
    · rw [Nat.add_sub_cancel]; omega
  rw [k25]
  rcases a4 with ⟨c1, c2⟩ | ⟨c1, c2⟩
  · rw [c1]
    refine ⟨fun hh => absurd rfl hh, fun _ => ?_⟩
    refine qBI.fn (x_firstOf σ4 yl t6) (by decide) ?_
    have ef : zfst C = k1 := by
      refine zlst_is _ _ _ _ (Nat.zero_le _) (by omega) (decide_eq_true t6) (fun m _ hm1 => ?_)
      rw [t4 m (by omega) hm1]
      rfl
    refine nx _ _ (fun a j hn => by rw [qwi_1, if_neg hn]) rfl ?_
    rw [qwi_1, if_pos ⟨rfl, rfl⟩, ef]
  · have hl : zlow (zmin (zit (zfst C) C)).2.2 ≤ 31 := by
      have := zlst_le (fun k => (zmin (zit (zfst C) C)).2.2.testBit k) 31 0
      unfold zlow
      omega
    have hne2 : ¬ nI (zlow (zmin (zit (zfst C) C)).2.2) = iI (-1) := by
      rw [iI_nat, qeq, iI_toInt (by omega) (by omega)]
      intro hh
      have : (iI (-1)).toInt = -1 := rfl
      omega
    rw [c1]
    refine ⟨fun _ => nx _ _ (fun _ _ _ => rfl) rfl (by rw [k25]; exact c1), fun hh => absurd hh hne2⟩
