/-! the reference: the weeks' rows -/
def zPrw (r a j : Nat) : Prop := zPw a j ∨ (a = 140 ∧ r ≤ j ∧ j < r + 6)
theorem zPrw_w {r : Nat} {σ σ' : qSg} (f : zF zPw σ σ') : zF (zPrw r) σ σ' := f.wk fun _ _ h => Or.inl h
theorem zPrw_t {r t : Nat} {σ σ' : qSg} (f : zF (zPto t) σ σ') (h : r ≤ t) (h2 : t < r + 6) : zF (zPrw r) σ σ' := f.wk fun a j hh => by
  unfold zPto at hh
  unfold zPrw
  rcases hh with hh | ⟨hh, h2⟩
  · exact Or.inl hh
  · exact Or.inr ⟨hh, by omega⟩
/-- a row of the draft -/
def zRw (σ : qSg) (r : Nat) (row : Nat → Nat) : Prop := ∀ i, i < 6 → σ.1 140 (r + i) = nI (row i)
theorem zRw.set {σ σ' : qSg} {r t v : Nat} {row : Nat → Nat} (h : zRw σ r row) (f : zF (zPto (r + t)) σ σ') (hv : σ'.1 140 (r + t) = nI v) : zRw σ' r (fun i => if i = t then v else row i) := by
  intro i hi
  by_cases e : i = t
  · subst e
    show _ = nI (if i = i then v else row i)
    rw [if_pos rfl]
    exact hv
  · show _ = nI (if i = t then v else row i)
    rw [if_neg e, zPto_at f (by omega)]
    exact h i hi
theorem zRw.w {σ σ' : qSg} {r : Nat} {row : Nat → Nat} (h : zRw σ r row) (f : zF zPw σ σ') : zRw σ' r row := fun i hi => by rw [zPw_at f]; exact h i hi
theorem zRw.eq {σ : qSg} {r : Nat} {row row' : Nat → Nat} (h : zRw σ r row) (e : ∀ i, i < 6 → row i = row' i) : zRw σ r row' := fun i hi => by rw [← e i hi]; exact h i hi
/-- the camp's boys that a reader of weeks asks for -/
def zBo (σ : qSg) (m : Nat) (N : Nat → List Nat) : Prop := σ.1 140 0 = nI m ∧ zMN σ 0 m N
theorem zBo.f {σ σ' : qSg} {m : Nat} {N : Nat → List Nat} (h : zBo σ m N) (e : σ'.1 140 0 = σ.1 140 0) (e2 : σ'.2 = σ.2) : zBo σ' m N := ⟨by rw [e]; exact h.1, fun b hb => by rw [e2]; exact h.2 b hb⟩
set_option maxRecDepth 20000 in
theorem m_boyTo {σ : qSg} {B : Nat → Nat} {N : Nat → List Nat} {n p m t : Nat} (hB : zBW B n) (hp : p ≤ n) (h : zPd σ B n p) (hb : zBo σ m N) (hN : zNW m N) (hm : m ≤ 8) (ht : t < 3088) : qCI 8 254 [qr 139, qi (nI t)] σ (fun r σ' => zPo (zpB B N m p) r σ' (fun v => zPd σ' B n v.2 ∧ σ'.1 140 t = nI v.1) ∧ zF (zPto t) σ σ') := by
  refine qCI.of [some (qr 139), some (qi (nI t))] ok_254 (Nat.le_of_ble_eq_true rfl) rfl ?_
  refine qV.go 30 [9999] ok_254 ?_
  simp only [qW_nop, qW_iconst, qW_iloadn, qW_aloadn, qW_getf, qW_iald, qW_cv4_0, qW_iret1, Nat.reduceAdd, Nat.reduceMul, Nat.reduceBEq, Nat.reduceEqDiff, Nat.reduceLT, Nat.reduceLeDiff, Nat.zero_le, nI_add, nI_mul, nI_cl, qin_eq, qofI, qlg_0, qlg_s, qls_i0, qls_r0, qls_l0, qls_1, qls_2, qkl_i, qkl_r, qkl_l, qkl_n, qIsI_i, qIsL_l, qIsR_r, qint_i, qil_i, qil_r, qil_l, qf4_0, qf4_1, qf4_2, qf4_3, qf2_0, qf2_1, qcs_n, qcs_i, qcs_r, qcs_l, qst_n, qst_c, qJ_0, qJ_st, qJ_go, qfl_I, qfl_Z, qfl_L, qfl_R, qrI_i, qrL_l, qrV_v, qRcv_0, qRcv_s, eq_self, true_and, and_true, true_or, or_true, false_and, and_false, false_or, or_false, ite_true, if_true, if_false, Bool.true_or, Bool.false_or, Bool.or_false, beq_self_eq_true, Bool.false_eq_true, bX12_boyTo_0, kX12_boyTo_0, qK_139, qR_139_0, qK_140, qR_139_1, qK_141, qR_139_5, qK_142, qR_139_6, qK_143, qR_139_7, qK_144, qR_139_8, qK_145, qR_139_9, qK_146, qR_139_21, qK_147, qR_139_25, qK_148, qR_139_30, qK_149, qR_139_31, qK_150, qR_139_33, qK_151, qR_139_34, qK_152, qR_139_35, qK_153, qR_139_36, qK_154, qR_139_39, qK_155, qR_139_40, qK_156, qR_139_41, qK_157]
  rw [hb.1]
  refine qBI.of (m_oldBoy hB hp h hb.2 hN hm (by decide) ht) (by decide) (fun r σ1 g => ?_)
  refine ⟨?_, g⟩
  rcases zPo_c g.1 with ⟨e, he, rfl, hf⟩ | ⟨v, hv, rfl, hv1⟩
  · exact Or.inl rfl
  · exact Or.inr rfl
def zRo (B : Nat → Nat) (n r : Nat) (R : zR ((Nat → Nat) × Nat)) (σ : qSg) (x : Int32) (σ' : qSg) : Prop := zPo R x σ' (fun v => zPd σ' B n v.2 ∧ zRw σ' r v.1) ∧ zF (zPrw r) σ σ'
set_option maxRecDepth 20000 in
theorem m_test {σ : qSg} {B : Nat → Nat} {N : Nat → List Nat} {n p m r : Nat} (hB : zBW B n) (hp : p ≤ n) (h : zPd σ B n p) (hb : zBo σ m N) (hN : zNW m N) (hm : m ≤ 8) (hr : 1912 ≤ r) (hr2 : r + 6 ≤ 3088) (hw : zRw σ r (zr6 15 0 0 0 0)) :
    qCI 9 255 [qr 139, qi (nI r)] σ (zRo B n r (zpTest B N m p) σ) := by
  have ht := tkE_spec hB hp
  have ht2 := tkE_spec hB ht.2.2.1
  have hy := tkY_le B p
  refine qCI.of [some (qr 139), some (qi (nI r)), none] ok_255 (Nat.le_of_ble_eq_true rfl) rfl ?_
  refine qV.go 30 [48, 81, 116] ok_255 ?_
  simp only [qW_nop, qW_iconst, qW_bipush, qW_sipush, qW_ldcs, qW_iloadn, qW_aloadn, qW_istoren, qW_iadd, qW_ifne, qW_icne, qW_icge, qW_goto, qW_getf, qW_iast, qW_cv1_2, qW_cv2_0, qW_cv4_0, qW_iret1, Nat.reduceAdd, Nat.reduceMul, Nat.reduceBEq, Nat.reduceEqDiff, Nat.reduceLT, Nat.reduceLeDiff, Nat.zero_le, nI_add, nI_mul, nI_cl, qin_eq, qofI, qlg_0, qlg_s, qls_i0, qls_r0, qls_l0, qls_1, qls_2, qkl_i, qkl_r, qkl_l, qkl_n, qIsI_i, qIsL_l, qIsR_r, qint_i, qil_i, qil_r, qil_l, qf4_0, qf4_1, qf4_2, qf4_3, qf2_0, qf2_1, qcs_n, qcs_i, qcs_r, qcs_l, qst_n, qst_c, qJ_0, qJ_st, qJ_go, qfl_I, qfl_Z, qfl_L, qfl_R, qrI_i, qrL_l, qrV_v, qRcv_0, qRcv_s, eq_self, true_and, and_true, true_or, or_true, false_and, and_false, false_or, or_false, ite_true, if_true, if_false, Bool.true_or, Bool.false_or, Bool.or_false, beq_self_eq_true, Bool.false_eq_true, bX12_test_0, bX12_test_19, bX12_test_48, bX12_test_81, bX12_test_113, bX12_test_116, kX12_test_0, kX12_test_19, kX12_test_48, kX12_test_81, kX12_test_113, kX12_test_116, qK_139, qR_139_0, qK_140, qR_139_1, qK_141, qR_139_5, qK_142, qR_139_6, qK_143, qR_139_7, qK_144, qR_139_8, qK_145, qR_139_9, qK_146, qR_139_21, qK_147, qR_139_25, qK_148, qR_139_30, qK_149, qR_139_31, qK_150, qR_139_33, qK_151, qR_139_34, qK_152, qR_139_35, qK_153, qR_139_36, qK_154, qR_139_39, qK_155, qR_139_40, qK_156, qR_139_41, qK_157]
  refine qBI.fn (m_inWords hB hp h.1) (by decide) ?_
  have ge : (nI 19 ≤ zkI (tkY B p)) = (19 ≤ tkY B p ∧ tkY B p < 22) := by
    rw [qle]
    unfold zkI
    apply propext
    by_cases g : tkY B p < 22
    · rw [if_pos g, nI_t (by omega), nI_t (by omega)]; omega
    · rw [if_neg g, iI_toInt (by decide) (by decide), nI_t (by omega)]; omega
  rw [ge]
  refine ⟨fun g => ?_, fun g => ?_⟩
  · rw [zkI_k g.2]
    simp (disch := omega) only [nI_leI, nI_ltI, nI_eq, nI_cl, qin_eq, nI_add, nI_mul, qb_z, qb_t, qb_f, nI_ne0', Nat.reduceAdd, Bool.false_eq_true, if_false, if_true, true_and, and_true, Nat.reduceEqDiff, not_true_eq_false, not_false_eq_true, false_implies, true_implies, ite_true, ite_false]
    have eT0 : ¬ (tkY B p < 19 ∨ tkY B p = 22) := by omega
    have f0 : zF (zPto (r + 0)) σ (qwi σ 140 r (nI (1500 + tkY B p))) := zF.wi (Or.inr ⟨rfl, rfl⟩)
    have w0 := hw.set f0 (v := 1500 + tkY B p) (by rw [qwi_1, if_pos ⟨rfl, rfl⟩])
    have p0 : zPd (qwi σ 140 r (nI (1500 + tkY B p))) B n p := h.at
    have b0 : zBo (qwi σ 140 r (nI (1500 + tkY B p))) m N := hb.f (by rw [qwi_1, if_neg (by omega)]) rfl
    have F0 : zF (zPrw r) σ (qwi σ 140 r (nI (1500 + tkY B p))) := zPrw_t f0 (by omega) (by omega)
    generalize qwi σ 140 r (nI (1500 + tkY B p)) = σ1 at w0 p0 b0 F0 ⊢
    refine qBV.of (m_next hB hp p0) (by decide) (fun σ2 g2 => ?_)
    obtain ⟨p1, f1⟩ := g2
    have w1 := w0.w (zPa_w f1)
    have b1 : zBo σ2 m N := b0.f (zPa_at f1 0) f1.2
    have F1 := F0.tr (zPrw_w (r := r) (zPa_w f1))
    refine ⟨fun g3 => ?_, fun g3 => ?_⟩
    · -- open, now
      have eT1 : zpTest B N m p = if tkK B (tkE B p) = 4 ∧ (tkV B (tkE B p) = 60 ∨ tkV B (tkE B p) = 62 ∨ tkV B (tkE B p) = 61) then zbd (zpN B 0 (if tkY B p = 20 then 10 else 9999) (tkE B (tkE B p))) fun b => .inr (zr6 (1500 + tkY B p) 0 b.1 0 (tkV B (tkE B p)), b.2) else .inl (zno B (tkE B p) 2) := by
        unfold zpTest
        rw [if_neg eT0, if_neg g3]
      have yes : tkK B (tkE B p) = 4 ∧ (tkV B (tkE B p) = 60 ∨ tkV B (tkE B p) = 62 ∨ tkV B (tkE B p) = 61) → qV 255 9 (.inl (zRo B n r (zpTest B N m p) σ)) 81 [some (qr 139), some (qi (nI r)), some (qi (nI (tkY B p)))] [] σ2 := by
        intro g4
        rw [eT1, if_pos g4]
        have hv := p1.1.2.2.2.2 (Or.inr g4.1)
        have hvb : tkV B (tkE B p) < 100 := by omega
        refine qV.go 30 [9999] ok_255 ?_
        simp only [qW_nop, qW_iconst, qW_bipush, qW_sipush, qW_ldcs, qW_iloadn, qW_aloadn, qW_istoren, qW_iadd, qW_ifne, qW_icne, qW_icge, qW_goto, qW_getf, qW_iast, qW_cv1_2, qW_cv2_0, qW_cv4_0, qW_iret1, Nat.reduceAdd, Nat.reduceMul, Nat.reduceBEq, Nat.reduceEqDiff, Nat.reduceLT, Nat.reduceLeDiff, Nat.zero_le, nI_add, nI_mul, nI_cl, qin_eq, qofI, qlg_0, qlg_s, qls_i0, qls_r0, qls_l0, qls_1, qls_2, qkl_i, qkl_r, qkl_l, qkl_n, qIsI_i, qIsL_l, qIsR_r, qint_i, qil_i, qil_r, qil_l, qf4_0, qf4_1, qf4_2, qf4_3, qf2_0, qf2_1, qcs_n, qcs_i, qcs_r, qcs_l, qst_n, qst_c, qJ_0, qJ_st, qJ_go, qfl_I, qfl_Z, qfl_L, qfl_R, qrI_i, qrL_l, qrV_v, qRcv_0, qRcv_s, eq_self, true_and, and_true, true_or, or_true, false_and, and_false, false_or, or_false, ite_true, if_true, if_false, Bool.true_or, Bool.false_or, Bool.or_false, beq_self_eq_true, Bool.false_eq_true, bX12_test_0, bX12_test_19, bX12_test_48, bX12_test_81, bX12_test_113, bX12_test_116, kX12_test_0, kX12_test_19, kX12_test_48, kX12_test_81, kX12_test_113, kX12_test_116, qK_139, qR_139_0, qK_140, qR_139_1, qK_141, qR_139_5, qK_142, qR_139_6, qK_143, qR_139_7, qK_144, qR_139_8, qK_145, qR_139_9, qK_146, qR_139_21, qK_147, qR_139_25, qK_148, qR_139_30, qK_149, qR_139_31, qK_150, qR_139_33, qK_151, qR_139_34, qK_152, qR_139_35, qK_153, qR_139_36, qK_154, qR_139_39, qK_155, qR_139_40, qK_156, qR_139_41, qK_157]
        rw [hv]
        simp (disch := omega) only [nI_leI, nI_ltI, nI_eq, nI_cl, qin_eq, nI_add, nI_mul, qb_z, qb_t, qb_f, nI_ne0', Nat.reduceAdd, Bool.false_eq_true, if_false, if_true, true_and, and_true, Nat.reduceEqDiff, not_true_eq_false, not_false_eq_true, false_implies, true_implies, ite_true, ite_false]
        have f2 : zF (zPto (r + 5)) σ2 (qwi σ2 140 (r + 5) (nI (tkV B (tkE B p)))) := zF.wi (Or.inr ⟨rfl, rfl⟩)
        have w2 := w1.set f2 (v := tkV B (tkE B p)) (by rw [qwi_1, if_pos ⟨rfl, rfl⟩])
        have p2 : zPd (qwi σ2 140 (r + 5) (nI (tkV B (tkE B p)))) B n (tkE B p) := p1.at
        have F2 := F1.tr (zPrw_t (r := r) f2 (by omega) (by omega))
        generalize qwi σ2 140 (r + 5) (nI (tkV B (tkE B p))) = σ3 at w2 p2 F2 ⊢
        refine qBV.of (m_next hB ht.2.2.1 p2) (by decide) (fun σ4 g5 => ?_)
        obtain ⟨p3, f3⟩ := g5
        have w3 := w2.w (zPa_w f3)
        have F3 := F2.tr (zPrw_w (r := r) (zPa_w f3))
        have last : ∀ hi, hi < 100000 → qBI 9 238 [qr 139, qi (nI (r + 2)), qi (nI 0), qi (nI hi)] σ4 (fun x σ' => (x = nI 0 ∨ x = nI 1) ∧ zRo B n r (zbd (zpN B 0 hi (tkE B (tkE B p))) fun b => .inr (zr6 (1500 + tkY B p) 0 b.1 0 (tkV B (tkE B p)), b.2)) σ x σ') := by
          intro hi hhi
          refine qBI.of (m_number hB ht2.2.2.1 p3 (t := r + 2) (lo := 0) (hi := hi) (by omega) (by decide) hhi) (by decide) (fun x σ5 g6 => ?_)
          obtain ⟨g6, f6⟩ := g6
          have F6 := F3.tr (zPrw_t (r := r) f6 (by omega) (by omega))
          rcases zPo_c g6 with ⟨e, he, rfl, hf⟩ | ⟨v, hv, rfl, v1, v2⟩
          · exact ⟨Or.inl rfl, zPo_l (by rw [he]; rfl) rfl hf, F6⟩
          · refine ⟨Or.inr rfl, zPo_r (by rw [hv]; rfl) rfl ⟨v1, (w3.set f6 v2).eq (fun i hi => ?_)⟩, F6⟩
            rcases (show i = 0 ∨ i = 1 ∨ i = 2 ∨ i = 3 ∨ i = 4 ∨ i = 5 by omega) with rfl | rfl | rfl | rfl | rfl | rfl <;> simp [zr6]
        by_cases g20 : tkY B p = 20
        · rw [if_pos g20]
          exact ⟨fun hh => absurd g20 hh, fun _ => last 10 (by decide)⟩
        · rw [if_neg g20]
          exact ⟨fun _ => last 9999 (by decide), fun hh => absurd hh g20⟩
      refine qV.go 30 [81, 116] ok_255 ?_
      simp only [qW_nop, qW_iconst, qW_bipush, qW_sipush, qW_ldcs, qW_iloadn, qW_aloadn, qW_istoren, qW_iadd, qW_ifne, qW_icne, qW_icge, qW_goto, qW_getf, qW_iast, qW_cv1_2, qW_cv2_0, qW_cv4_0, qW_iret1, Nat.reduceAdd, Nat.reduceMul, Nat.reduceBEq, Nat.reduceEqDiff, Nat.reduceLT, Nat.reduceLeDiff, Nat.zero_le, nI_add, nI_mul, nI_cl, qin_eq, qofI, qlg_0, qlg_s, qls_i0, qls_r0, qls_l0, qls_1, qls_2, qkl_i, qkl_r, qkl_l, qkl_n, qIsI_i, qIsL_l, qIsR_r, qint_i, qil_i, qil_r, qil_l, qf4_0, qf4_1, qf4_2, qf4_3, qf2_0, qf2_1, qcs_n, qcs_i, qcs_r, qcs_l, qst_n, qst_c, qJ_0, qJ_st, qJ_go, qfl_I, qfl_Z, qfl_L, qfl_R, qrI_i, qrL_l, qrV_v, qRcv_0, qRcv_s, eq_self, true_and, and_true, true_or, or_true, false_and, and_false, false_or, or_false, ite_true, if_true, if_false, Bool.true_or, Bool.false_or, Bool.or_false, beq_self_eq_true, Bool.false_eq_true, bX12_test_0, bX12_test_19, bX12_test_48, bX12_test_81, bX12_test_113, bX12_test_116, kX12_test_0, kX12_test_19, kX12_test_48, kX12_test_81, kX12_test_113, kX12_test_116, qK_139, qR_139_0, qK_140, qR_139_1, qK_141, qR_139_5, qK_142, qR_139_6, qK_143, qR_139_7, qK_144, qR_139_8, qK_145, qR_139_9, qK_146, qR_139_21, qK_147, qR_139_25, qK_148, qR_139_30, qK_149, qR_139_31, qK_150, qR_139_33, qK_151, qR_139_34, qK_152, qR_139_35, qK_153, qR_139_36, qK_154, qR_139_39, qK_155, qR_139_40, qK_156, qR_139_41, qK_157]
      have s60 := m_isSign hB p1.1 (c := 60) (by decide)
      have s62 := m_isSign hB p1.1 (c := 62) (by decide)
      have s61 := m_isSign hB p1.1 (c := 61) (by decide)
      refine qBI.fn s60 (by decide) ?_
      simp (disch := omega) only [nI_leI, nI_ltI, nI_eq, nI_cl, qin_eq, nI_add, nI_mul, qb_z, qb_t, qb_f, nI_ne0', Nat.reduceAdd, Bool.false_eq_true, if_false, if_true, true_and, and_true, Nat.reduceEqDiff, not_true_eq_false, not_false_eq_true, false_implies, true_implies, ite_true, ite_false]
      refine ⟨fun c1 => yes (by simp at c1; omega), fun c1 => qBI.fn s62 (by decide) ?_⟩
      simp (disch := omega) only [nI_leI, nI_ltI, nI_eq, nI_cl, qin_eq, nI_add, nI_mul, qb_z, qb_t, qb_f, nI_ne0', Nat.reduceAdd, Bool.false_eq_true, if_false, if_true, true_and, and_true, Nat.reduceEqDiff, not_true_eq_false, not_false_eq_true, false_implies, true_implies, ite_true, ite_false]
      refine ⟨fun c2 => yes (by simp at c2; omega), fun c2 => qBI.fn s61 (by decide) ?_⟩
      simp (disch := omega) only [nI_leI, nI_ltI, nI_eq, nI_cl, qin_eq, nI_add, nI_mul, qb_z, qb_t, qb_f, nI_ne0', Nat.reduceAdd, Bool.false_eq_true, if_false, if_true, true_and, and_true, Nat.reduceEqDiff, not_true_eq_false, not_false_eq_true, false_implies, true_implies, ite_true, ite_false]
      refine ⟨fun c3 => yes (by simp at c3; omega), fun c3 => ?_⟩
      refine qBI.of (m_fails p1) (by decide) (fun x σ5 g6 => ?_)
      obtain ⟨rfl, g7, g8⟩ := g6
      refine ⟨Or.inl rfl, zPo_l ?_ rfl g7, F1.tr (zPrw_w g8)⟩
      rw [eT1, if_neg]
      simp at c1 c2 c3
      omega
    · -- up
      have eT1 : zpTest B N m p = zbd (zpB B N m (tkE B p)) fun a => .inr (zr6 1519 a.1 0 0 0, a.2) := by
        unfold zpTest
        rw [if_neg eT0, if_pos g3]
      refine qBI.of (m_boyTo hB ht.2.2.1 p1 b1 hN hm (t := r + 1) (by omega)) (by decide) (fun x σ3 g6 => ?_)
      obtain ⟨g6, f6⟩ := g6
      have F6 := F1.tr (zPrw_t (r := r) f6 (by omega) (by omega))
      rcases zPo_c g6 with ⟨e, he, rfl, hf⟩ | ⟨v, hv, rfl, v1, v2⟩
      · exact ⟨Or.inl rfl, zPo_l (by rw [eT1, he]; rfl) rfl hf, F6⟩
      · refine ⟨Or.inr rfl, zPo_r (by rw [eT1, hv]; rfl) rfl ⟨v1, (w1.set f6 v2).eq (fun i hi => ?_)⟩, F6⟩
        rcases (show i = 0 ∨ i = 1 ∨ i = 2 ∨ i = 3 ∨ i = 4 ∨ i = 5 by omega) with rfl | rfl | rfl | rfl | rfl | rfl <;> simp [zr6, g3]
  · refine qBI.of (m_fails h) (by decide) (fun x σ5 g6 => ?_)
    obtain ⟨rfl, g7, g8⟩ := g6
    exact ⟨Or.inl rfl, zPo_l (by unfold zpTest; rw [if_pos (by omega)]) rfl g7, zPrw_w g8⟩
