/-! the class: a boy's line, a quarrel's line -/
set_option maxRecDepth 20000 in
theorem x_takeBoyC {σ : qSg} {B : Nat → Nat} {n p : Nat} {s : zS} (hB : zBW B n) (hp : p ≤ n) (h : zXd σ B n p) (hs : zXs σ s) (hw : zSW s) (hk : tkY B p = 2) : qCI 6 37 [qr 53] σ (zXp B n s p σ) := by
  have wb := hw.1.1
  have ht := tkE_spec hB hp
  have ht2 := tkE_spec hB ht.2.2.1
  have k2 := tkY_w (B := B) (p := p) (by omega)
  have hc := zSW_cells hw.1
  obtain ⟨hX, hN, ⟨ft, h2, e2⟩, h3⟩ := id hs
  have e0 : zpPart0 B s p = zbd (zpBoy B s.1 s.2.1 p) fun r => .inr ((r.1.1, r.1.2, true, s.2.2.2), r.2) := by unfold zpPart0; rw [if_neg (by omega), if_neg (by omega), if_pos hk]
  have eb : σ.1 54 4 = nI (s.1 0 0) := hX.1.b
  refine qCI.of [some (qr 53), none, none, none, none, none, none] ok_37 (Nat.le_of_ble_eq_true rfl) rfl ?_
  refine qV.go 30 [192, 199] ok_37 ?_
  simp only [qW_nop, qW_iconst, qW_iconstm, qW_bipush, qW_iloadn, qW_iload, qW_lloadn, qW_aloadn, qW_istoren, qW_istore, qW_lstoren, qW_isub, qW_imul, qW_pop, qW_ifeq, qW_iceq, qW_ifne, qW_icne, qW_iclt, qW_goto, qW_getf, qW_cv1_0, qW_cv1_2, qW_cv2_0, qW_cv3_0, qW_cv6_0, qW_iret1, Nat.reduceAdd, Nat.reduceMul, Nat.reduceBEq, Nat.reduceEqDiff, Nat.reduceLT, Nat.reduceLeDiff, Nat.zero_le, nI_add, nI_mul, nI_cl, qin_eq, qofI, qlg_0, qlg_s, qls_i0, qls_r0, qls_l0, qls_1, qls_2, qkl_i, qkl_r, qkl_l, qkl_n, qIsI_i, qIsL_l, qIsR_r, qint_i, qil_i, qil_r, qil_l, qf4_0, qf4_1, qf4_2, qf4_3, qf2_0, qf2_1, qcs_n, qcs_i, qcs_r, qcs_l, qst_n, qst_c, qJ_0, qJ_st, qJ_go, qfl_I, qfl_Z, qfl_L, qfl_R, qrI_i, qrL_l, qrV_v, qRcv_0, qRcv_s, eq_self, true_and, and_true, true_or, or_true, false_and, and_false, false_or, or_false, ite_true, if_true, if_false, Bool.true_or, Bool.false_or, Bool.or_false, beq_self_eq_true, Bool.false_eq_true, bX2_takeBoy_0, bX2_takeBoy_22, bX2_takeBoy_47, bX2_takeBoy_74, bX2_takeBoy_128, bX2_takeBoy_130, bX2_takeBoy_162, bX2_takeBoy_164, bX2_takeBoy_192, bX2_takeBoy_199, bX2_takeBoy_217, bX2_takeBoy_219, kX2_takeBoy_0, kX2_takeBoy_22, kX2_takeBoy_47, kX2_takeBoy_74, kX2_takeBoy_128, kX2_takeBoy_130, kX2_takeBoy_162, kX2_takeBoy_164, kX2_takeBoy_192, kX2_takeBoy_199, kX2_takeBoy_217, kX2_takeBoy_219, qK_53, qR_53_0, qK_50, qR_53_1, qK_54, qK_54, qR_54_6, qK_55, qR_54_7, qK_56, qR_54_8, qK_57, qR_54_9, qK_58, qR_54_10, qK_59, qR_54_11, qK_60, qR_54_12, qK_61, qR_54_13, qK_62, qR_54_14, qK_63, qR_54_15, qK_64, qR_54_16, qK_65, qK_50, qR_50_0, qK_51, qR_50_13, qK_52]
  rw [eb]
  simp (disch := omega) only [nI_leI, nI_ltI, nI_eq, nI_cl, qin_eq, nI_add, nI_mul, qb_z, qb_t, qb_f, nI_ne0', Nat.reduceAdd, Bool.false_eq_true, if_false, if_true, true_and, and_true, Nat.reduceEqDiff, not_true_eq_false, not_false_eq_true, false_implies, true_implies, ite_true, ite_false]
  refine ⟨fun g8 => ?_, fun g8 => ?_⟩
  · have eB : zpBoy B s.1 s.2.1 p = (if zisN B (tkE B p) = false then .inl (zno B (tkE B p) 2) else if zfd s.2.1 (tkW B (tkE B p)) (s.1 0 0) ≠ s.1 0 0 then .inl (zno B (tkE B p) 3) else zbd (zpBoyN B (s.1 0 2 * s.1 0 3) (tkE B (tkE B p))) fun r => .inr ((zcome s.1 r.1.1 r.1.2.1 r.1.2.2.1 r.1.2.2.2, fun b => if b = s.1 0 0 then tkW B (tkE B p) else s.2.1 b), r.2)) := by unfold zpBoy; rw [if_neg (by omega)]
    refine qBV.of (x_next hB hp h) (by decide) (fun σ2 g2 => ?_)
    obtain ⟨d2, f2⟩ := g2
    have f2 := zPxs_t f2
    have F2 := zPxt_c f2
    have X2 := hX.t zCb_d f2
    have N2 := hN.t zCb_d f2
    refine qBI.fn (x_isName hB ht.2.2.1 d2) (by decide) ?_
    simp (disch := omega) only [nI_leI, nI_ltI, nI_eq, nI_cl, qin_eq, nI_add, nI_mul, qb_z, qb_t, qb_f, nI_ne0', Nat.reduceAdd, Bool.false_eq_true, if_false, if_true, true_and, and_true, Nat.reduceEqDiff, not_true_eq_false, not_false_eq_true, false_implies, true_implies, ite_true, ite_false]
    refine ⟨fun gn => ?_, fun gn => ?_⟩
    · have gn' : zisN B (tkE B p) = true := by simpa using gn
      rw [if_neg (by rw [gn']; decide)] at eB
      have hwm := tkW_Nm hB ht.2.2.1 gn'
      have kn := (zisN_K gn').1
      rw [d2.1.word gn']
      refine qBI.fn (x_named zCb_d X2.1 hw.1 N2 hw.2.1 hwm) (by decide) ?_
      have hle := zfd_le s.2.1 (tkW B (tkE B p)) (s.1 0 0)
      by_cases e1 : zfd s.2.1 (tkW B (tkE B p)) (s.1 0 0) = s.1 0 0
      · rw [if_neg (fun hh => hh e1)] at eB
        rw [if_pos e1, d2.1.word gn']
        refine ⟨fun _ => ?_, fun gx => absurd rfl gx⟩
        refine qBV.of (x_next hB ht.2.2.1 d2) (by decide) (fun σ3 g3 => ?_)
        obtain ⟨d3, f3⟩ := g3
        have f3 := zPxs_t f3
        have F3 := F2.tr (zPxt_c f3)
        refine qBI.of (x_takeWord hB ht2.2.2.1 d3 (k := 5) (by decide) rfl) (by decide) (fun v σ4 g4 => ?_)
        obtain ⟨g4, f4⟩ := g4
        have F4 := F3.tr (zPxt_c f4)
        have X4 := (X2.t zCb_d f3).t zCb_d f4
        rcases zXo_c g4 with ⟨e, he, rfl, hf⟩ | ⟨q1, hq1, rfl, d4⟩
        · simp (disch := omega) only [nI_leI, nI_ltI, nI_eq, nI_cl, qin_eq, nI_add, nI_mul, qb_z, qb_t, qb_f, nI_ne0', Nat.reduceAdd, Bool.false_eq_true, if_false, if_true, true_and, and_true, Nat.reduceEqDiff, not_true_eq_false, not_false_eq_true, false_implies, true_implies, ite_true, ite_false]
          exact ⟨zXo_l (by simp only [zpPart, e0, eB, zpBoyN, he, zbd_l, zbd_r]) rfl hf, F4⟩
        · simp (disch := omega) only [nI_leI, nI_ltI, nI_eq, nI_cl, qin_eq, nI_add, nI_mul, qb_z, qb_t, qb_f, nI_ne0', Nat.reduceAdd, Bool.false_eq_true, if_false, if_true, true_and, and_true, Nat.reduceEqDiff, not_true_eq_false, not_false_eq_true, false_implies, true_implies, ite_true, ite_false]
          have s4 := zpK_inr hB ht2.2.2.1 (by decide) hq1
          have ew : σ4.1 54 0 = nI (s.1 0 2) := X4.1.w
          have eh : σ4.1 54 1 = nI (s.1 0 3) := X4.1.h
          rw [ew, eh, nI_mul, nI_sub hc.1]
          refine qBI.of (x_takeNum hB s4.2 d4 (lo := 0) (hi := s.1 0 2 * s.1 0 3 - 1) (by decide) (by omega)) (by decide) (fun v σ5 g5 => ?_)
          obtain ⟨g5, f5⟩ := g5
          have F5 := F4.tr (zPxt_c f5)
          rcases zXo_c g5 with ⟨e, he, rfl, hf⟩ | ⟨c, hcc, rfl, d5, t5⟩
          · simp (disch := omega) only [nI_leI, nI_ltI, nI_eq, nI_cl, qin_eq, nI_add, nI_mul, qb_z, qb_t, qb_f, nI_ne0', Nat.reduceAdd, Bool.false_eq_true, if_false, if_true, true_and, and_true, Nat.reduceEqDiff, not_true_eq_false, not_false_eq_true, false_implies, true_implies, ite_true, ite_false]
            exact ⟨zXo_l (by simp only [zpPart, e0, eB, zpBoyN, hq1, he, zbd_l, zbd_r]) rfl hf, F5⟩
          · simp (disch := omega) only [nI_leI, nI_ltI, nI_eq, nI_cl, qin_eq, nI_add, nI_mul, qb_z, qb_t, qb_f, nI_ne0', Nat.reduceAdd, Bool.false_eq_true, if_false, if_true, true_and, and_true, Nat.reduceEqDiff, not_true_eq_false, not_false_eq_true, false_implies, true_implies, ite_true, ite_false]
            have s5 := zpN_inr hB s4.2 hcc
            rw [t5]
            refine qBI.of (x_takeWord hB s5.2.1 d5 (k := 6) (by decide) rfl) (by decide) (fun v σ6 g6 => ?_)
            obtain ⟨g6, f6⟩ := g6
            have F6 := F5.tr (zPxt_c f6)
            rcases zXo_c g6 with ⟨e, he, rfl, hf⟩ | ⟨q2, hq2, rfl, d6⟩
            · simp (disch := omega) only [nI_leI, nI_ltI, nI_eq, nI_cl, qin_eq, nI_add, nI_mul, qb_z, qb_t, qb_f, nI_ne0', Nat.reduceAdd, Bool.false_eq_true, if_false, if_true, true_and, and_true, Nat.reduceEqDiff, not_true_eq_false, not_false_eq_true, false_implies, true_implies, ite_true, ite_false]
              exact ⟨zXo_l (by simp only [zpPart, e0, eB, zpBoyN, hq1, hcc, he, zbd_l, zbd_r]) rfl hf, F6⟩
            · simp (disch := omega) only [nI_leI, nI_ltI, nI_eq, nI_cl, qin_eq, nI_add, nI_mul, qb_z, qb_t, qb_f, nI_ne0', Nat.reduceAdd, Bool.false_eq_true, if_false, if_true, true_and, and_true, Nat.reduceEqDiff, not_true_eq_false, not_false_eq_true, false_implies, true_implies, ite_true, ite_false]
              have s6 := zpK_inr hB s5.2.1 (by decide) hq2
              refine qBI.of (x_takeNum hB s6.2 d6 (lo := 1) (hi := 30) (by decide) (by decide)) (by decide) (fun v σ7 g7 => ?_)
              obtain ⟨g7, f7⟩ := g7
              have F7 := F6.tr (zPxt_c f7)
              rcases zXo_c g7 with ⟨e, he, rfl, hf⟩ | ⟨pr, hpr, rfl, d7, t7⟩
              · simp (disch := omega) only [nI_leI, nI_ltI, nI_eq, nI_cl, qin_eq, nI_add, nI_mul, qb_z, qb_t, qb_f, nI_ne0', Nat.reduceAdd, Bool.false_eq_true, if_false, if_true, true_and, and_true, Nat.reduceEqDiff, not_true_eq_false, not_false_eq_true, false_implies, true_implies, ite_true, ite_false]
                exact ⟨zXo_l (by simp only [zpPart, e0, eB, zpBoyN, hq1, hcc, hq2, he, zbd_l, zbd_r]) rfl hf, F7⟩
              · simp (disch := omega) only [nI_leI, nI_ltI, nI_eq, nI_cl, qin_eq, nI_add, nI_mul, qb_z, qb_t, qb_f, nI_ne0', Nat.reduceAdd, Bool.false_eq_true, if_false, if_true, true_and, and_true, Nat.reduceEqDiff, not_true_eq_false, not_false_eq_true, false_implies, true_implies, ite_true, ite_false]
                have s7 := zpN_inr hB s6.2 hpr
                rw [t7]
                -- behind soft and ears
                have fin : ∀ (R : zR (Nat × Nat)) (soft : Nat) (v : Int32) (σ9 : qSg), (∀ a, R = .inr a → a.2 ≤ n ∧ a.1 ≤ 9) → soft ≤ 9 → zpPart B s p = (zbd (zbd R fun e => (.inr ((zcome s.1 c.1 pr.1 soft e.1, fun b => if b = s.1 0 0 then tkW B (tkE B p) else s.2.1 b), e.2) : zR ((zC × (Nat → List Nat)) × Nat))) fun r => zbd (zpS B 59 r.2) fun q => .inr ((r.1.1, r.1.2, true, s.2.2.2), q)) → (match R with | .inl e => v = iI (-1) ∧ zXe σ9 e | .inr a => v = nI a.1 ∧ zXd σ9 B n a.2) → zG zPxt zRxt σ7 σ9 →
                    qV 37 6 (.inl (zXp B n s p σ)) 199 [some (qr 53), some (ql (lN (zcg 32 96 (tkW B (tkE B p))))), none, some (qi (nI c.1)), some (qi (nI pr.1)), some (qi (nI soft)), none] [qi v] σ9 := by
                  intro R soft v σ9 hR hsf eR hv f9
                  have F9 := F7.tr (zPxt_c f9)
                  refine qV.go 30 [9999] ok_37 ?_
                  simp only [qW_nop, qW_iconst, qW_iconstm, qW_bipush, qW_iloadn, qW_iload, qW_lloadn, qW_aloadn, qW_istoren, qW_istore, qW_lstoren, qW_isub, qW_imul, qW_pop, qW_ifeq, qW_iceq, qW_ifne, qW_icne, qW_iclt, qW_goto, qW_getf, qW_cv1_0, qW_cv1_2, qW_cv2_0, qW_cv3_0, qW_cv6_0, qW_iret1, Nat.reduceAdd, Nat.reduceMul, Nat.reduceBEq, Nat.reduceEqDiff, Nat.reduceLT, Nat.reduceLeDiff, Nat.zero_le, nI_add, nI_mul, nI_cl, qin_eq, qofI, qlg_0, qlg_s, qls_i0, qls_r0, qls_l0, qls_1, qls_2, qkl_i, qkl_r, qkl_l, qkl_n, qIsI_i, qIsL_l, qIsR_r, qint_i, qil_i, qil_r, qil_l, qf4_0, qf4_1, qf4_2, qf4_3, qf2_0, qf2_1, qcs_n, qcs_i, qcs_r, qcs_l, qst_n, qst_c, qJ_0, qJ_st, qJ_go, qfl_I, qfl_Z, qfl_L, qfl_R, qrI_i, qrL_l, qrV_v, qRcv_0, qRcv_s, eq_self, true_and, and_true, true_or, or_true, false_and, and_false, false_or, or_false, ite_true, if_true, if_false, Bool.true_or, Bool.false_or, Bool.or_false, beq_self_eq_true, Bool.false_eq_true, bX2_takeBoy_0, bX2_takeBoy_22, bX2_takeBoy_47, bX2_takeBoy_74, bX2_takeBoy_128, bX2_takeBoy_130, bX2_takeBoy_162, bX2_takeBoy_164, bX2_takeBoy_192, bX2_takeBoy_199, bX2_takeBoy_217, bX2_takeBoy_219, kX2_takeBoy_0, kX2_takeBoy_22, kX2_takeBoy_47, kX2_takeBoy_74, kX2_takeBoy_128, kX2_takeBoy_130, kX2_takeBoy_162, kX2_takeBoy_164, kX2_takeBoy_192, kX2_takeBoy_199, kX2_takeBoy_217, kX2_takeBoy_219, qK_53, qR_53_0, qK_50, qR_53_1, qK_54, qK_54, qR_54_6, qK_55, qR_54_7, qK_56, qR_54_8, qK_57, qR_54_9, qK_58, qR_54_10, qK_59, qR_54_11, qK_60, qR_54_12, qK_61, qR_54_13, qK_62, qR_54_14, qK_63, qR_54_15, qK_64, qR_54_16, qK_65, qK_50, qR_50_0, qK_51, qR_50_13, qK_52]
                  cases R with
                  | inl e =>
                    obtain ⟨rfl, hf⟩ := hv
                    simp (disch := omega) only [nI_leI, nI_ltI, nI_eq, nI_cl, qin_eq, nI_add, nI_mul, qb_z, qb_t, qb_f, nI_ne0', Nat.reduceAdd, Bool.false_eq_true, if_false, if_true, true_and, and_true, Nat.reduceEqDiff, not_true_eq_false, not_false_eq_true, false_implies, true_implies, ite_true, ite_false]
                    exact ⟨zXo_l (by rw [eR]; rfl) rfl hf, F9⟩
                  | inr a =>
                    obtain ⟨rfl, d9⟩ := hv
                    obtain ⟨a1, a2⟩ := hR a rfl
                    refine ⟨fun hh => absurd hh (nI_nem (by omega)), fun _ => ?_⟩
                    refine qBI.of (x_takeStop hB a1 d9) (by decide) (fun v σ10 g10 => ?_)
                    obtain ⟨g10, f10⟩ := g10
                    have F10 := F9.tr (zPxt_c f10)
                    rcases zXo_c g10 with ⟨e, he, rfl, hf⟩ | ⟨u, hu, rfl, d10⟩
                    · simp (disch := omega) only [nI_leI, nI_ltI, nI_eq, nI_cl, qin_eq, nI_add, nI_mul, qb_z, qb_t, qb_f, nI_ne0', Nat.reduceAdd, Bool.false_eq_true, if_false, if_true, true_and, and_true, Nat.reduceEqDiff, not_true_eq_false, not_false_eq_true, false_implies, true_implies, ite_true, ite_false]
                      exact ⟨zXo_l (by rw [eR]; simp only [he, zbd_l, zbd_r]) rfl hf, F10⟩
                    · simp (disch := omega) only [nI_leI, nI_ltI, nI_eq, nI_cl, qin_eq, nI_add, nI_mul, qb_z, qb_t, qb_f, nI_ne0', Nat.reduceAdd, Bool.false_eq_true, if_false, if_true, true_and, and_true, Nat.reduceEqDiff, not_true_eq_false, not_false_eq_true, false_implies, true_implies, ite_true, ite_false]
                      have fX := ((((f3.tr f4).tr f5).tr f6).tr f7).tr (f9.tr f10)
                      have X10 := X2.t zCb_d fX
                      have N10 := N2.t zCb_d fX
                      have n10 : σ10.1 53 2 = qb ft := by rw [fX.1 _ _ (by unfold zPxt; omega), f2.1 _ _ (by unfold zPxt; omega)]; exact h2
                      have o10 : σ10.1 53 3 = qb s.2.2.2 := by rw [fX.1 _ _ (by unfold zPxt; omega), f2.1 _ _ (by unfold zPxt; omega)]; exact h3
                      refine qBI.of (x_addBoy zCb_d X10.1 hw.1 g8 (lN (zcg 32 96 (tkW B (tkE B p)))) (c := c.1) (p := pr.1) (s := soft) (e := a.1) (by omega) s7.2.2.1 s7.2.2.2 hsf a2) (by decide) (fun v σ11 g11 => ?_)
                      obtain ⟨-, X11, w11, f11⟩ := g11
                      have c11 := zcome_0 s.1 c.1 pr.1 soft a.1
                      refine ⟨zXo_r (a := ((zcome s.1 c.1 pr.1 soft a.1, fun b => if b = s.1 0 0 then tkW B (tkE B p) else s.2.1 b, true, s.2.2.2), u)) (by rw [eR]; simp only [hu, zbd_l, zbd_r]) rfl ⟨d10.o f11 (fun j _ _ _ hh => by unfold zXf at hh; omega) (fun j hh => by unfold zXf at hh; omega) (fun j hh => by unfold zXn at hh; omega) (fun hh => by unfold zXn at hh; omega), X11, fun b hb => ?_, ⟨ft, ?_, ?_⟩, ?_⟩, F10.tr (f11.wk (fun a j hh => by unfold zXf at hh; unfold zPcr; omega) (fun a j hh => by unfold zXn at hh; unfold zRcr; omega))⟩
                      · have hb : b < zcome s.1 c.1 pr.1 soft a.1 0 0 := hb
                        rw [c11] at hb
                        show σ11.2 55 b = lN (zcg 32 96 (if b = s.1 0 0 then tkW B (tkE B p) else s.2.1 b))
                        by_cases ebb : b = s.1 0 0
                        · rw [if_pos ebb, ebb]; exact w11
                        · rw [if_neg ebb, f11.2 _ _ (by unfold zXn; omega)]
                          exact N10 b (by omega)
                      · rw [f11.1 _ _ (by unfold zXf; omega)]; exact n10
                      · show true = (ft || decide (0 < zcome s.1 c.1 pr.1 soft a.1 0 0))
                        rw [c11, decide_eq_true (by omega), Bool.or_true]
                      · rw [f11.1 _ _ (by unfold zXf; omega)]; exact o10
                have eR0 : zpPart B s p = (zbd (zbd (zpP B 7 1 pr.2) fun sf => zbd (zpP B 8 2 sf.2) fun e => (.inr ((zcome s.1 c.1 pr.1 sf.1 e.1, fun b => if b = s.1 0 0 then tkW B (tkE B p) else s.2.1 b), e.2) : zR ((zC × (Nat → List Nat)) × Nat))) fun r => zbd (zpS B 59 r.2) fun q => .inr ((r.1.1, r.1.2, true, s.2.2.2), q)) := by
                  simp only [zpPart, e0, eB, zpBoyN, hq1, hcc, hq2, hpr, zbd_r]
                  cases zpP B 7 1 pr.2 with
                  | inl e => rfl
                  | inr a =>
                    simp only [zbd_r]
                    cases zpP B 8 2 a.2 with
                    | inl e => rfl
                    | inr b => rfl
                refine qBI.of (x_perhaps hB s7.2.1 d7 (k := 7) (d := 1) (by decide) rfl) (by decide) (fun v σ8 g8' => ?_)
                obtain ⟨g8', f8⟩ := g8'
                cases eP : zpP B 7 1 pr.2 with
                | inl e =>
                  rw [eP] at g8' eR0
                  obtain ⟨rfl, hf⟩ := g8'
                  refine ⟨fun hh => absurd rfl hh, fun _ => ?_⟩
                  refine qV.go 30 [9999] ok_37 ?_
                  simp only [qW_nop, qW_iconst, qW_iconstm, qW_bipush, qW_iloadn, qW_iload, qW_lloadn, qW_aloadn, qW_istoren, qW_istore, qW_lstoren, qW_isub, qW_imul, qW_pop, qW_ifeq, qW_iceq, qW_ifne, qW_icne, qW_iclt, qW_goto, qW_getf, qW_cv1_0, qW_cv1_2, qW_cv2_0, qW_cv3_0, qW_cv6_0, qW_iret1, Nat.reduceAdd, Nat.reduceMul, Nat.reduceBEq, Nat.reduceEqDiff, Nat.reduceLT, Nat.reduceLeDiff, Nat.zero_le, nI_add, nI_mul, nI_cl, qin_eq, qofI, qlg_0, qlg_s, qls_i0, qls_r0, qls_l0, qls_1, qls_2, qkl_i, qkl_r, qkl_l, qkl_n, qIsI_i, qIsL_l, qIsR_r, qint_i, qil_i, qil_r, qil_l, qf4_0, qf4_1, qf4_2, qf4_3, qf2_0, qf2_1, qcs_n, qcs_i, qcs_r, qcs_l, qst_n, qst_c, qJ_0, qJ_st, qJ_go, qfl_I, qfl_Z, qfl_L, qfl_R, qrI_i, qrL_l, qrV_v, qRcv_0, qRcv_s, eq_self, true_and, and_true, true_or, or_true, false_and, and_false, false_or, or_false, ite_true, if_true, if_false, Bool.true_or, Bool.false_or, Bool.or_false, beq_self_eq_true, Bool.false_eq_true, bX2_takeBoy_0, bX2_takeBoy_22, bX2_takeBoy_47, bX2_takeBoy_74, bX2_takeBoy_128, bX2_takeBoy_130, bX2_takeBoy_162, bX2_takeBoy_164, bX2_takeBoy_192, bX2_takeBoy_199, bX2_takeBoy_217, bX2_takeBoy_219, kX2_takeBoy_0, kX2_takeBoy_22, kX2_takeBoy_47, kX2_takeBoy_74, kX2_takeBoy_128, kX2_takeBoy_130, kX2_takeBoy_162, kX2_takeBoy_164, kX2_takeBoy_192, kX2_takeBoy_199, kX2_takeBoy_217, kX2_takeBoy_219, qK_53, qR_53_0, qK_50, qR_53_1, qK_54, qK_54, qR_54_6, qK_55, qR_54_7, qK_56, qR_54_8, qK_57, qR_54_9, qK_58, qR_54_10, qK_59, qR_54_11, qK_60, qR_54_12, qK_61, qR_54_13, qK_62, qR_54_14, qK_63, qR_54_15, qK_64, qR_54_16, qK_65, qK_50, qR_50_0, qK_51, qR_50_13, qK_52]
                  simp (disch := omega) only [nI_leI, nI_ltI, nI_eq, nI_cl, qin_eq, nI_add, nI_mul, qb_z, qb_t, qb_f, nI_ne0', Nat.reduceAdd, Bool.false_eq_true, if_false, if_true, true_and, and_true, Nat.reduceEqDiff, not_true_eq_false, not_false_eq_true, false_implies, true_implies, ite_true, ite_false]
                  exact ⟨zXo_l (by rw [eR0]; rfl) rfl hf, F7.tr (zPxt_c f8)⟩
                | inr sf =>
                  rw [eP] at g8' eR0
                  obtain ⟨rfl, d8⟩ := g8'
                  have s8 := zpP_inr hB s7.2.1 (by decide) (by decide) eP
                  refine ⟨fun _ => ?_, fun hh => absurd hh (nI_nem (by omega))⟩
                  refine qV.go 30 [199] ok_37 ?_
                  simp only [qW_nop, qW_iconst, qW_iconstm, qW_bipush, qW_iloadn, qW_iload, qW_lloadn, qW_aloadn, qW_istoren, qW_istore, qW_lstoren, qW_isub, qW_imul, qW_pop, qW_ifeq, qW_iceq, qW_ifne, qW_icne, qW_iclt, qW_goto, qW_getf, qW_cv1_0, qW_cv1_2, qW_cv2_0, qW_cv3_0, qW_cv6_0, qW_iret1, Nat.reduceAdd, Nat.reduceMul, Nat.reduceBEq, Nat.reduceEqDiff, Nat.reduceLT, Nat.reduceLeDiff, Nat.zero_le, nI_add, nI_mul, nI_cl, qin_eq, qofI, qlg_0, qlg_s, qls_i0, qls_r0, qls_l0, qls_1, qls_2, qkl_i, qkl_r, qkl_l, qkl_n, qIsI_i, qIsL_l, qIsR_r, qint_i, qil_i, qil_r, qil_l, qf4_0, qf4_1, qf4_2, qf4_3, qf2_0, qf2_1, qcs_n, qcs_i, qcs_r, qcs_l, qst_n, qst_c, qJ_0, qJ_st, qJ_go, qfl_I, qfl_Z, qfl_L, qfl_R, qrI_i, qrL_l, qrV_v, qRcv_0, qRcv_s, eq_self, true_and, and_true, true_or, or_true, false_and, and_false, false_or, or_false, ite_true, if_true, if_false, Bool.true_or, Bool.false_or, Bool.or_false, beq_self_eq_true, Bool.false_eq_true, bX2_takeBoy_0, bX2_takeBoy_22, bX2_takeBoy_47, bX2_takeBoy_74, bX2_takeBoy_128, bX2_takeBoy_130, bX2_takeBoy_162, bX2_takeBoy_164, bX2_takeBoy_192, bX2_takeBoy_199, bX2_takeBoy_217, bX2_takeBoy_219, kX2_takeBoy_0, kX2_takeBoy_22, kX2_takeBoy_47, kX2_takeBoy_74, kX2_takeBoy_128, kX2_takeBoy_130, kX2_takeBoy_162, kX2_takeBoy_164, kX2_takeBoy_192, kX2_takeBoy_199, kX2_takeBoy_217, kX2_takeBoy_219, qK_53, qR_53_0, qK_50, qR_53_1, qK_54, qK_54, qR_54_6, qK_55, qR_54_7, qK_56, qR_54_8, qK_57, qR_54_9, qK_58, qR_54_10, qK_59, qR_54_11, qK_60, qR_54_12, qK_61, qR_54_13, qK_62, qR_54_14, qK_63, qR_54_15, qK_64, qR_54_16, qK_65, qK_50, qR_50_0, qK_51, qR_50_13, qK_52]
                  refine qBI.of (x_perhaps hB s8.2.1 d8 (k := 8) (d := 2) (by decide) rfl) (by decide) (fun v σ9 g9 => ?_)
                  obtain ⟨g9, f9⟩ := g9
                  refine fin (zpP B 8 2 sf.2) sf.1 v σ9 (fun a ha => ?_) s8.2.2 ?_ g9 (f8.tr f9)
                  · have s9 := zpP_inr hB s8.2.1 (by decide) (by decide) ha
                    exact ⟨s9.2.1, s9.2.2⟩
                  · rw [eR0]
                    rfl
      · rw [if_pos e1] at eB
        rw [if_neg e1]
        refine ⟨fun hh => absurd hh (nI_nem (by omega)), fun _ => ?_⟩
        refine qBI.of (x_fail d2 3) (by decide) (fun v σ3 g3 => ?_)
        obtain ⟨rfl, g3, f3⟩ := g3
        refine ⟨Or.inl rfl, zXo_l (e := zno B (tkE B p) 3) (by simp only [zpPart, e0, eB, zbd_l, zbd_r]) rfl ?_, F2.tr (zPxt_c f3)⟩
        rw [zno_ne (by omega)]
        exact g3
    · rw [if_pos gn] at eB
      refine qBI.of (x_cannot d2) (by decide) (fun v σ3 g3 => ?_)
      obtain ⟨rfl, g3, f3⟩ := g3
      exact ⟨Or.inl rfl, zXo_l (by simp only [zpPart, e0, eB, zbd_l, zbd_r]) rfl g3, F2.tr (zPxt_c f3)⟩
  · refine qBI.of (x_fail h 6) (by decide) (fun v σ1 g1 => ?_)
    obtain ⟨rfl, g1, f1⟩ := g1
    refine ⟨Or.inl rfl, zXo_l (e := zno B p 6) (by unfold zpPart; rw [e0]; unfold zpBoy; rw [if_pos (by omega)]; rfl) rfl ?_, zPxt_c f1⟩
    rw [zno_ne (by omega)]
    exact g1
theorem zBh_c {B : Nat → Nat} {N : Nat → List Nat} {m p : Nat} {σ : qSg} {v : Int32} {σ' : qSg} (h : zBh B N m p σ v σ') : (∃ e, zpB B N m p = .inl e ∧ v = iI (-1) ∧ zXe σ' e ∧ zG zPxt zRxt σ σ') ∨ ∃ a, zpB B N m p = .inr a ∧ v = nI a.1 ∧ σ' = σ ∧ a.2 = tkE B p ∧ a.1 < m ∧ zisN B p = true := by
  unfold zBh at h
  split at h
  · exact Or.inl ⟨_, by assumption, h⟩
  · exact Or.inr ⟨_, by assumption, h⟩
set_option maxRecDepth 20000 in
theorem x_takeQuarrelC {σ : qSg} {B : Nat → Nat} {n p : Nat} {s : zS} (hB : zBW B n) (hp : p ≤ n) (h : zXd σ B n p) (hs : zXs σ s) (hw : zSW s) (hk : tkY B p = 3) : qCI 5 39 [qr 53] σ (zXp B n s p σ) := by
  have wb := hw.1.1
  have wq := hw.1.2.1
  have ht := tkE_spec hB hp
  have k2 := tkY_w (B := B) (p := p) (by omega)
  obtain ⟨hX, hN, ⟨ft, h2, e2⟩, h3⟩ := id hs
  have e0 : zpPart0 B s p = zbd (zpQuar B s.1 s.2.1 p) fun r => .inr ((r.1, s.2.1, s.2.2.1, s.2.2.2), r.2) := by unfold zpPart0; rw [if_neg (by omega), if_neg (by omega), if_neg (by omega), if_pos hk]
  have eb : σ.1 54 5 = nI (s.1 0 1) := hX.1.q
  refine qCI.of [some (qr 53), none, none, none] ok_39 (Nat.le_of_ble_eq_true rfl) rfl ?_
  refine qV.go 30 [9999] ok_39 ?_
  simp only [qW_nop, qW_iconst, qW_iconstm, qW_bipush, qW_iloadn, qW_aloadn, qW_istoren, qW_pop, qW_ifeq, qW_ifne, qW_icne, qW_iclt, qW_getf, qW_cv1_0, qW_cv1_2, qW_cv2_0, qW_cv3_0, qW_cv4_0, qW_iret1, Nat.reduceAdd, Nat.reduceMul, Nat.reduceBEq, Nat.reduceEqDiff, Nat.reduceLT, Nat.reduceLeDiff, Nat.zero_le, nI_add, nI_mul, nI_cl, qin_eq, qofI, qlg_0, qlg_s, qls_i0, qls_r0, qls_l0, qls_1, qls_2, qkl_i, qkl_r, qkl_l, qkl_n, qIsI_i, qIsL_l, qIsR_r, qint_i, qil_i, qil_r, qil_l, qf4_0, qf4_1, qf4_2, qf4_3, qf2_0, qf2_1, qcs_n, qcs_i, qcs_r, qcs_l, qst_n, qst_c, qJ_0, qJ_st, qJ_go, qfl_I, qfl_Z, qfl_L, qfl_R, qrI_i, qrL_l, qrV_v, qRcv_0, qRcv_s, eq_self, true_and, and_true, true_or, or_true, false_and, and_false, false_or, or_false, ite_true, if_true, if_false, Bool.true_or, Bool.false_or, Bool.or_false, beq_self_eq_true, Bool.false_eq_true, bX2_takeQuarrel_0, bX2_takeQuarrel_22, bX2_takeQuarrel_48, bX2_takeQuarrel_74, bX2_takeQuarrel_88, bX2_takeQuarrel_120, bX2_takeQuarrel_122, bX2_takeQuarrel_142, kX2_takeQuarrel_0, kX2_takeQuarrel_22, kX2_takeQuarrel_48, kX2_takeQuarrel_74, kX2_takeQuarrel_88, kX2_takeQuarrel_120, kX2_takeQuarrel_122, kX2_takeQuarrel_142, qK_53, qR_53_0, qK_50, qR_53_1, qK_54, qK_54, qR_54_6, qK_55, qR_54_7, qK_56, qR_54_8, qK_57, qR_54_9, qK_58, qR_54_10, qK_59, qR_54_11, qK_60, qR_54_12, qK_61, qR_54_13, qK_62, qR_54_14, qK_63, qR_54_15, qK_64, qR_54_16, qK_65, qK_50, qR_50_0, qK_51, qR_50_13, qK_52]
  rw [eb]
  simp (disch := omega) only [nI_leI, nI_ltI, nI_eq, nI_cl, qin_eq, nI_add, nI_mul, qb_z, qb_t, qb_f, nI_ne0', Nat.reduceAdd, Bool.false_eq_true, if_false, if_true, true_and, and_true, Nat.reduceEqDiff, not_true_eq_false, not_false_eq_true, false_implies, true_implies, ite_true, ite_false]
  refine ⟨fun g8 => ?_, fun g8 => ?_⟩
  · have eQ : zpQuar B s.1 s.2.1 p = zbd (zpB B s.2.1 (s.1 0 0) (tkE B p)) fun a => zbd (zpB B s.2.1 (s.1 0 0) a.2) fun b => if a.1 = b.1 then .inl (zno B a.2 5) else zbd (zpK B 9 b.2) fun p1 => zbd (zpN B 0 99 p1) fun g => .inr (zboot s.1 a.1 b.1 g.1, g.2) := by unfold zpQuar; rw [if_neg (by omega)]
    refine qBV.of (x_next hB hp h) (by decide) (fun σ2 g2 => ?_)
    obtain ⟨d2, f2⟩ := g2
    have f2 := zPxs_t f2
    have F2 := zPxt_c f2
    have X2 := hX.t zCb_d f2
    have N2 := hN.t zCb_d f2
    refine qBI.of (x_boyHere zCb_d X2.1 hw.1 hB ht.2.2.1 d2 N2 hw.2.1) (by decide) (fun v σ3 g3 => ?_)
    rcases zBh_c g3 with ⟨e, he, rfl, hf, f3⟩ | ⟨a, ha, rfl, rfl, a2, am, an⟩
    · refine ⟨fun hh => absurd rfl hh, fun _ => ?_⟩
      exact ⟨zXo_l (by simp only [zpPart, e0, eQ, he, zbd_l, zbd_r]) rfl hf, F2.tr (zPxt_c f3)⟩
    · refine ⟨fun _ => ?_, fun hh => absurd hh (nI_nem (by omega))⟩
      have s3 := zpB_inr hB ht.2.2.1 ha
      refine qBV.of (x_next hB ht.2.2.1 d2) (by decide) (fun σ4 g4 => ?_)
      obtain ⟨d4, f4⟩ := g4
      have f4 := zPxs_t f4
      have F4 := F2.tr (zPxt_c f4)
      have X4 := X2.t zCb_d f4
      have N4 := N2.t zCb_d f4
      rw [← a2] at d4
      refine qBI.of (x_boyHere zCb_d X4.1 hw.1 hB s3.2.1 d4 N4 hw.2.1) (by decide) (fun v σ5 g5 => ?_)
      rcases zBh_c g5 with ⟨e, he, rfl, hf, f5⟩ | ⟨b, hb, rfl, rfl, b2, bm, bn⟩
      · refine ⟨fun hh => absurd rfl hh, fun _ => ?_⟩
        exact ⟨zXo_l (by simp only [zpPart, e0, eQ, ha, he, zbd_l, zbd_r]) rfl hf, F4.tr (zPxt_c f5)⟩
      · refine ⟨fun _ => ?_, fun hh => absurd hh (nI_nem (by omega))⟩
        have s5 := zpB_inr hB s3.2.1 hb
        have kb := (zisN_K bn).1
        simp (disch := omega) only [nI_leI, nI_ltI, nI_eq, nI_cl, qin_eq, nI_add, nI_mul, qb_z, qb_t, qb_f, nI_ne0', Nat.reduceAdd, Bool.false_eq_true, if_false, if_true, true_and, and_true, Nat.reduceEqDiff, not_true_eq_false, not_false_eq_true, false_implies, true_implies, ite_true, ite_false]
        refine ⟨fun gne => ?_, fun geq => ?_⟩
        · refine qBV.of (x_next hB s3.2.1 d4) (by decide) (fun σ6 g6 => ?_)
          obtain ⟨d6, f6⟩ := g6
          have f6 := zPxs_t f6
          have F6 := F4.tr (zPxt_c f6)
          rw [← b2] at d6
          refine qBI.of (x_takeWord hB s5.2.1 d6 (k := 9) (by decide) rfl) (by decide) (fun v σ7 g7 => ?_)
          obtain ⟨g7, f7⟩ := g7
          have F7 := F6.tr (zPxt_c f7)
          rcases zXo_c g7 with ⟨e, he, rfl, hf⟩ | ⟨q1, hq1, rfl, d7⟩
          · simp (disch := omega) only [nI_leI, nI_ltI, nI_eq, nI_cl, qin_eq, nI_add, nI_mul, qb_z, qb_t, qb_f, nI_ne0', Nat.reduceAdd, Bool.false_eq_true, if_false, if_true, true_and, and_true, Nat.reduceEqDiff, not_true_eq_false, not_false_eq_true, false_implies, true_implies, ite_true, ite_false]
            exact ⟨zXo_l (by simp only [zpPart, e0, eQ, ha, hb, if_neg gne, he, zbd_l, zbd_r]) rfl hf, F7⟩
          · simp (disch := omega) only [nI_leI, nI_ltI, nI_eq, nI_cl, qin_eq, nI_add, nI_mul, qb_z, qb_t, qb_f, nI_ne0', Nat.reduceAdd, Bool.false_eq_true, if_false, if_true, true_and, and_true, Nat.reduceEqDiff, not_true_eq_false, not_false_eq_true, false_implies, true_implies, ite_true, ite_false]
            have s7 := zpK_inr hB s5.2.1 (by decide) hq1
            refine qBI.of (x_takeNum hB s7.2 d7 (lo := 0) (hi := 99) (by decide) (by decide)) (by decide) (fun v σ8 g8' => ?_)
            obtain ⟨g8', f8⟩ := g8'
            have F8 := F7.tr (zPxt_c f8)
            rcases zXo_c g8' with ⟨e, he, rfl, hf⟩ | ⟨g, hg, rfl, d8, t8⟩
            · simp (disch := omega) only [nI_leI, nI_ltI, nI_eq, nI_cl, qin_eq, nI_add, nI_mul, qb_z, qb_t, qb_f, nI_ne0', Nat.reduceAdd, Bool.false_eq_true, if_false, if_true, true_and, and_true, Nat.reduceEqDiff, not_true_eq_false, not_false_eq_true, false_implies, true_implies, ite_true, ite_false]
              exact ⟨zXo_l (by simp only [zpPart, e0, eQ, ha, hb, if_neg gne, hq1, he, zbd_l, zbd_r]) rfl hf, F8⟩
            · simp (disch := omega) only [nI_leI, nI_ltI, nI_eq, nI_cl, qin_eq, nI_add, nI_mul, qb_z, qb_t, qb_f, nI_ne0', Nat.reduceAdd, Bool.false_eq_true, if_false, if_true, true_and, and_true, Nat.reduceEqDiff, not_true_eq_false, not_false_eq_true, false_implies, true_implies, ite_true, ite_false]
              have s8 := zpN_inr hB s7.2 hg
              rw [t8]
              refine qBI.of (x_takeStop hB s8.2.1 d8) (by decide) (fun v σ9 g9 => ?_)
              obtain ⟨g9, f9⟩ := g9
              have F9 := F8.tr (zPxt_c f9)
              rcases zXo_c g9 with ⟨e, he, rfl, hf⟩ | ⟨u, hu, rfl, d9⟩
              · simp (disch := omega) only [nI_leI, nI_ltI, nI_eq, nI_cl, qin_eq, nI_add, nI_mul, qb_z, qb_t, qb_f, nI_ne0', Nat.reduceAdd, Bool.false_eq_true, if_false, if_true, true_and, and_true, Nat.reduceEqDiff, not_true_eq_false, not_false_eq_true, false_implies, true_implies, ite_true, ite_false]
                exact ⟨zXo_l (by simp only [zpPart, e0, eQ, ha, hb, if_neg gne, hq1, hg, he, zbd_l, zbd_r]) rfl hf, F9⟩
              · simp (disch := omega) only [nI_leI, nI_ltI, nI_eq, nI_cl, qin_eq, nI_add, nI_mul, qb_z, qb_t, qb_f, nI_ne0', Nat.reduceAdd, Bool.false_eq_true, if_false, if_true, true_and, and_true, Nat.reduceEqDiff, not_true_eq_false, not_false_eq_true, false_implies, true_implies, ite_true, ite_false]
                have fX := ((f6.tr f7).tr f8).tr f9
                have X9 := X4.t zCb_d fX
                have N9 := N4.t zCb_d fX
                have n9 : σ9.1 53 2 = qb ft := by rw [fX.1 _ _ (by unfold zPxt; omega), f4.1 _ _ (by unfold zPxt; omega), f2.1 _ _ (by unfold zPxt; omega)]; exact h2
                have o9 : σ9.1 53 3 = qb s.2.2.2 := by rw [fX.1 _ _ (by unfold zPxt; omega), f4.1 _ _ (by unfold zPxt; omega), f2.1 _ _ (by unfold zPxt; omega)]; exact h3
                refine qBI.of (x_addQuarrel zCb_d X9 hw.1 (a := a.1) (b := b.1) (g := g.1)) (by decide) (fun v σ10 g10 => ?_)
                rw [if_neg (by omega)] at g10
                obtain ⟨-, X10, f10⟩ := g10
                have c10 : zboot s.1 a.1 b.1 g.1 0 0 = s.1 0 0 := zboot_ne (by omega) (by omega)
                have f10' : zG (zXf 54) (fun _ _ => False) σ9 σ10 := f10.g fun a j hh => hh
                refine ⟨zXo_r (a := ((zboot s.1 a.1 b.1 g.1, s.2.1, s.2.2.1, s.2.2.2), u)) (by simp only [zpPart, e0, eQ, ha, hb, if_neg gne, hq1, hg, hu, zbd_l, zbd_r]) rfl ⟨d9.o f10' (fun j _ _ _ hh => by unfold zXf at hh; omega) (fun j hh => by unfold zXf at hh; omega) (fun j hh => hh) (fun hh => hh), X10, ?_, ⟨ft, ?_, ?_⟩, ?_⟩, F9.tr (f10'.wk (fun a j hh => by unfold zXf at hh; unfold zPcr; omega) (fun a j hh => hh.elim))⟩
                · show zXnm σ10 54 (zboot s.1 a.1 b.1 g.1 0 0) s.2.1
                  rw [c10]
                  intro b' hb'
                  rw [f10.2]
                  exact N9 b' hb'
                · rw [f10.1 _ _ (by unfold zXf; omega)]; exact n9
                · show s.2.2.1 = (ft || decide (0 < zboot s.1 a.1 b.1 g.1 0 0))
                  rw [c10]; exact e2
                · rw [f10.1 _ _ (by unfold zXf; omega)]; exact o9
        · refine qBI.of (x_fail d4 5) (by decide) (fun v σ6 g6 => ?_)
          obtain ⟨rfl, g6, f6⟩ := g6
          refine ⟨Or.inl rfl, zXo_l (e := zno B a.2 5) (by simp only [zpPart, e0, eQ, ha, hb, if_pos geq, zbd_l, zbd_r]) rfl ?_, F4.tr (zPxt_c f6)⟩
          rw [zno_ne (by omega)]
          exact g6
  · refine qBI.of (x_fail h 6) (by decide) (fun v σ1 g1 => ?_)
    obtain ⟨rfl, g1, f1⟩ := g1
    refine ⟨Or.inl rfl, zXo_l (e := zno B p 6) (by unfold zpPart; rw [e0]; unfold zpQuar; rw [if_pos (by omega)]; rfl) rfl ?_, zPxt_c f1⟩
    rw [zno_ne (by omega)]
    exact g1
