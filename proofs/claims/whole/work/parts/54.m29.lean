/-! the reference: boys, quarrels -/
theorem qV.mono {k d pc : Nat} {lo : qLo} {st : List qPV} {σ : qSg} {P P' : Int32 → qSg → Prop} (h : qV k d (.inl P) pc lo st σ) (hm : ∀ r σ', P r σ' → P' r σ') : qV k d (.inl P') pc lo st σ := by
  intro p l e s m args below meth c E hC H locs ls hP hD hS hL T hT X
  obtain ⟨t, a, o, b1, b2, b3, b4⟩ := h p l e s m args below meth c E hC H locs ls hP hD hS hL T hT X
  refine ⟨t, a, o, b1, b2, ?_, b4⟩
  obtain ⟨⟨r, u, c1, c2, c3⟩, c4⟩ := b3
  exact ⟨⟨r, u, c1, hm r u c2, c3⟩, c4⟩
/-- the draft of a camp -/
def zDr (σ : qSg) (D : zC) (N : Nat → List Nat) : Prop :=
  zM σ 1824 D ∧ zMN σ 32 (D 0 0) N ∧ (∀ b, D 0 0 ≤ b → b < 8 → σ.1 140 (1836 + 5 * b) = nI 0) ∧ (∀ q, D 0 1 ≤ q → q < 10 → σ.1 140 (1875 + 4 * q) = nI 0)
/-- what a camp's reader may change: ints, longs -/
def zPq0 (a j : Nat) : Prop := zPw a j ∨ (a = 140 ∧ 1824 ≤ j ∧ j < 2280 ∧ j ≠ 1830)
def zRq (a j : Nat) : Prop := a = 141 ∧ 32 ≤ j ∧ j < 40
theorem zPw_q0 {σ σ' : qSg} (f : zF zPw σ σ') : zG zPq0 zRq σ σ' := f.g fun _ _ h => Or.inl h
theorem zPby_q0 {σ σ' : qSg} {b : Nat} (hb : b < 8) (f : zF (zPby b) σ σ') : zG zPq0 zRq σ σ' := f.g fun a j h => by
  unfold zPby at h
  unfold zPq0
  rcases h with h | ⟨h, h2⟩
  · exact Or.inl h
  · exact Or.inr ⟨h, by omega⟩
theorem zDr.boy {σ σa σ' : qSg} {B : Nat → Nat} {n : Nat} {D : zC} {N : Nat → List Nat} (hw : zW D) (h : zDr σ D N) (hb : D 0 0 < 8) {W : List Nat} (e1 : ∀ j, σa.1 140 j = σ.1 140 j) (e2 : ∀ j, 32 ≤ j → σa.2 141 j = if j = 32 + D 0 0 then zcr2 W else σ.2 141 j) (f : zF (zPby (D 0 0)) σa σ') {v : (Nat × Nat × Nat × Nat) × Nat} (hv : zByF B n (D 0 0) σ' v) :
    zDr σ' (zcome D v.1.1 v.1.2.1 v.1.2.2.1 v.1.2.2.2) (fun b => if b = D 0 0 then W else N b) := by
  obtain ⟨wb, wq, ww1, ww2, wh1, wh2, wo, wm, wB, wQ⟩ := id hw
  obtain ⟨d1, d2, d3, d4⟩ := h
  obtain ⟨-, v1, v2, v3, v4, v5⟩ := hv
  have fr : ∀ j, j ≠ 1824 → ¬ (1832 + 5 * D 0 0 ≤ j ∧ j < 1836 + 5 * D 0 0) → σ'.1 140 j = σ.1 140 j := fun j h1 h2 => by
    rw [f.1 _ _ (by unfold zPby zPw; omega), e1]
  refine ⟨⟨fun j hj => ?_, fun b hb1 g hg => ?_, fun q hq g hg => ?_⟩, fun b hb1 => ?_, fun b h1 h2 => ?_, fun q h1 h2 => ?_⟩
  · by_cases e : j = 0
    · subst e
      rw [zcome_0]
      exact v5
    · rw [zcome_ne (by omega) (by omega), fr _ (by omega) (by omega)]
      exact d1.1 j hj
  · rw [zcome_0] at hb1
    by_cases e : b = D 0 0
    · subst e
      rw [zcome_b _ _ _ _ _ _ hg]
      rcases (show g = 0 ∨ g = 1 ∨ g = 2 ∨ g = 3 ∨ g = 4 by omega) with rfl | rfl | rfl | rfl | rfl
      · rw [show 1824 + (8 + 5 * D 0 0 + 0) = 1832 + 5 * D 0 0 by omega]; exact v1
      · rw [show 1824 + (8 + 5 * D 0 0 + 1) = 1832 + 5 * D 0 0 + 1 by omega]; exact v2
      · rw [show 1824 + (8 + 5 * D 0 0 + 2) = 1832 + 5 * D 0 0 + 2 by omega]; exact v3
      · rw [show 1824 + (8 + 5 * D 0 0 + 3) = 1832 + 5 * D 0 0 + 3 by omega]; exact v4
      · rw [fr _ (by omega) (by omega), show 1824 + (8 + 5 * D 0 0 + 4) = 1836 + 5 * D 0 0 by omega]
        exact d3 _ (Nat.le_refl _) hb
    · rw [zcome_ne (by omega) (by omega), fr _ (by omega) (by omega)]
      exact d1.2.1 b (by omega) g hg
  · rw [zcome_ne (by omega) (by omega)] at hq
    rw [zcome_ne (by omega) (by omega), fr _ (by omega) (by omega)]
    exact d1.2.2 q hq g hg
  · rw [zcome_0] at hb1
    rw [f.2, e2 _ (by omega)]
    show _ = zcr2 (if b = D 0 0 then W else N b)
    by_cases e : b = D 0 0
    · rw [if_pos (by omega), if_pos e]
    · rw [if_neg (by omega), if_neg e]
      exact d2 b (by omega)
  · rw [zcome_0] at h1
    rw [fr _ (by omega) (by omega)]
    exact d3 b (by omega) h2
  · rw [zcome_ne (by omega) (by omega)] at h1
    rw [fr _ (by omega) (by omega)]
    exact d4 q h1 h2
set_option maxRecDepth 20000 in
theorem m_aBoy {σ : qSg} {B : Nat → Nat} {n p : Nat} {D : zC} {N : Nat → List Nat} (hB : zBW B n) (hp : p ≤ n) (h : zPd σ B n p) (hw : zW D) (hN : zNW (D 0 0) N) (hd : zDr σ D N) :
    qCI 7 249 [qr 139] σ (fun r σ' => zPo (zpBoy B D N p) r σ' (fun v => zPd σ' B n v.2 ∧ zDr σ' v.1.1 v.1.2) ∧ zG zPq0 zRq σ σ') := by
  obtain ⟨wb, wq, ww1, ww2, wh1, wh2, wo, wm, wB, wQ⟩ := id hw
  have ht := tkE_spec hB hp
  have ht2 := tkE_spec hB ht.2.2.1
  have hc := zSW_cells hw
  have a0 : σ.1 140 1824 = nI (D 0 0) := hd.1.1 0 (by decide)
  have a2 : σ.1 140 1826 = nI (D 0 2) := hd.1.1 2 (by decide)
  have a3 : σ.1 140 1827 = nI (D 0 3) := hd.1.1 3 (by decide)
  refine qCI.of [some (qr 139), none, none] ok_249 (Nat.le_of_ble_eq_true rfl) rfl ?_
  refine qV.go 30 [67] ok_249 ?_
  simp only [qW_nop, qW_iconst, qW_iconstm, qW_bipush, qW_sipush, qW_ldcs, qW_iloadn, qW_aloadn, qW_istoren, qW_iadd, qW_isub, qW_imul, qW_dup2, qW_ifeq, qW_iceq, qW_ifne, qW_icne, qW_getf, qW_iald, qW_iast, qW_last, qW_cs1_0, qW_cv1_1, qW_cv1_2, qW_cv2_0, qW_cv3_0, qW_cv4_0, qW_iret1, Nat.reduceAdd, Nat.reduceMul, Nat.reduceBEq, Nat.reduceEqDiff, Nat.reduceLT, Nat.reduceLeDiff, Nat.zero_le, nI_add, nI_mul, nI_cl, qin_eq, qofI, qlg_0, qlg_s, qls_i0, qls_r0, qls_l0, qls_1, qls_2, qkl_i, qkl_r, qkl_l, qkl_n, qIsI_i, qIsL_l, qIsR_r, qint_i, qil_i, qil_r, qil_l, qf4_0, qf4_1, qf4_2, qf4_3, qf2_0, qf2_1, qcs_n, qcs_i, qcs_r, qcs_l, qst_n, qst_c, qJ_0, qJ_st, qJ_go, qfl_I, qfl_Z, qfl_L, qfl_R, qrI_i, qrL_l, qrV_v, qRcv_0, qRcv_s, eq_self, true_and, and_true, true_or, or_true, false_and, and_false, false_or, or_false, ite_true, if_true, if_false, Bool.true_or, Bool.false_or, Bool.or_false, beq_self_eq_true, Bool.false_eq_true, bX12_aBoy_0, bX12_aBoy_31, bX12_aBoy_50, bX12_aBoy_67, bX12_aBoy_146, bX12_aBoy_148, bX12_aBoy_190, bX12_aBoy_214, kX12_aBoy_0, kX12_aBoy_31, kX12_aBoy_50, kX12_aBoy_67, kX12_aBoy_146, kX12_aBoy_148, kX12_aBoy_190, kX12_aBoy_214, qK_139, qR_139_0, qK_140, qR_139_1, qK_141, qR_139_5, qK_142, qR_139_6, qK_143, qR_139_7, qK_144, qR_139_8, qK_145, qR_139_9, qK_146, qR_139_21, qK_147, qR_139_25, qK_148, qR_139_30, qK_149, qR_139_31, qK_150, qR_139_33, qK_151, qR_139_34, qK_152, qR_139_35, qK_153, qR_139_36, qK_154, qR_139_39, qK_155, qR_139_40, qK_156, qR_139_41, qK_157]
  rw [a0]
  refine qBI.fn (m_boyRow σ _) (by decide) ?_
  simp only [nI_mul, nI_add, show 1824 + (8 + 5 * D 0 0) = 1832 + 5 * D 0 0 by omega]
  simp (disch := omega) only [nI_leI, nI_ltI, nI_eq, nI_cl, qin_eq, nI_add, nI_mul, qb_z, qb_t, qb_f, nI_ne0', Nat.reduceAdd, Bool.false_eq_true, if_false, if_true, true_and, and_true, Nat.reduceEqDiff, not_true_eq_false, not_false_eq_true, false_implies, true_implies, ite_true, ite_false]
  refine ⟨fun g => ?_, fun g => ?_⟩
  · refine qBV.of (m_next hB hp h) (by decide) (fun σ1 g1 => ?_)
    obtain ⟨p1, f1⟩ := g1
    refine qBI.fn (m_isName hB ht.2.2.1 p1.1) (by decide) ?_
    simp (disch := omega) only [nI_leI, nI_ltI, nI_eq, nI_cl, qin_eq, nI_add, nI_mul, qb_z, qb_t, qb_f, nI_ne0', Nat.reduceAdd, Bool.false_eq_true, if_false, if_true, true_and, and_true, Nat.reduceEqDiff, not_true_eq_false, not_false_eq_true, false_implies, true_implies, ite_true, ite_false]
    have mn : zMN σ1 32 (D 0 0) N := fun b hb => by rw [f1.2]; exact hd.2.1 b hb
    have at1 := fun j => zPa_at f1 j
    refine ⟨fun g2 => ?_, fun g2 => ?_⟩
    · have g2' : zisN B (tkE B p) = true := by simpa using g2
      have hwm := tkW_Nm hB ht.2.2.1 g2'
      refine qBI.fn (m_findHere hB ht.2.2.1 p1.1 hwm mn hN wb (by decide)) (by decide) ?_
      have hle := zfd_le N (tkW B (tkE B p)) (D 0 0)
      by_cases e1 : zfd N (tkW B (tkE B p)) (D 0 0) = D 0 0
      · rw [if_pos e1]
        refine ⟨fun _ => ?_, fun g3 => absurd rfl g3⟩
        -- a new boy
        have eR : zpBoy B D N p = zbd (zpBoyN B (D 0 2 * D 0 3) (tkE B (tkE B p))) fun r => .inr ((zcome D r.1.1 r.1.2.1 r.1.2.2.1 r.1.2.2.2, fun b => if b = D 0 0 then tkW B (tkE B p) else N b), r.2) := by
          unfold zpBoy
          rw [if_neg g, if_neg (by rw [g2']; decide), if_neg (by simpa using e1)]
        rw [eR]
        refine qV.go 30 [148] ok_249 ?_
        simp only [qW_nop, qW_iconst, qW_iconstm, qW_bipush, qW_sipush, qW_ldcs, qW_iloadn, qW_aloadn, qW_istoren, qW_iadd, qW_isub, qW_imul, qW_dup2, qW_ifeq, qW_iceq, qW_ifne, qW_icne, qW_getf, qW_iald, qW_iast, qW_last, qW_cs1_0, qW_cv1_1, qW_cv1_2, qW_cv2_0, qW_cv3_0, qW_cv4_0, qW_iret1, Nat.reduceAdd, Nat.reduceMul, Nat.reduceBEq, Nat.reduceEqDiff, Nat.reduceLT, Nat.reduceLeDiff, Nat.zero_le, nI_add, nI_mul, nI_cl, qin_eq, qofI, qlg_0, qlg_s, qls_i0, qls_r0, qls_l0, qls_1, qls_2, qkl_i, qkl_r, qkl_l, qkl_n, qIsI_i, qIsL_l, qIsR_r, qint_i, qil_i, qil_r, qil_l, qf4_0, qf4_1, qf4_2, qf4_3, qf2_0, qf2_1, qcs_n, qcs_i, qcs_r, qcs_l, qst_n, qst_c, qJ_0, qJ_st, qJ_go, qfl_I, qfl_Z, qfl_L, qfl_R, qrI_i, qrL_l, qrV_v, qRcv_0, qRcv_s, eq_self, true_and, and_true, true_or, or_true, false_and, and_false, false_or, or_false, ite_true, if_true, if_false, Bool.true_or, Bool.false_or, Bool.or_false, beq_self_eq_true, Bool.false_eq_true, bX12_aBoy_0, bX12_aBoy_31, bX12_aBoy_50, bX12_aBoy_67, bX12_aBoy_146, bX12_aBoy_148, bX12_aBoy_190, bX12_aBoy_214, kX12_aBoy_0, kX12_aBoy_31, kX12_aBoy_50, kX12_aBoy_67, kX12_aBoy_146, kX12_aBoy_148, kX12_aBoy_190, kX12_aBoy_214, qK_139, qR_139_0, qK_140, qR_139_1, qK_141, qR_139_5, qK_142, qR_139_6, qK_143, qR_139_7, qK_144, qR_139_8, qK_145, qR_139_9, qK_146, qR_139_21, qK_147, qR_139_25, qK_148, qR_139_30, qK_149, qR_139_31, qK_150, qR_139_33, qK_151, qR_139_34, qK_152, qR_139_35, qK_153, qR_139_36, qK_154, qR_139_39, qK_155, qR_139_40, qK_156, qR_139_41, qK_157]
        simp (disch := omega) only [nI_leI, nI_ltI, nI_eq, nI_cl, qin_eq, nI_add, nI_mul, qb_z, qb_t, qb_f, nI_ne0', Nat.reduceAdd, Bool.false_eq_true, if_false, if_true, true_and, and_true, Nat.reduceEqDiff, not_true_eq_false, not_false_eq_true, false_implies, true_implies, ite_true, ite_false]
        refine qBL.fn (m_nameHere hB ht.2.2.1 p1.1) (by decide) ?_
        have p2 : zPd (qwl σ1 141 (32 + D 0 0) (zcr2 (tkW B (tkE B p)))) B n (tkE B p) := p1
        have ea : ∀ j, (qwl σ1 141 (32 + D 0 0) (zcr2 (tkW B (tkE B p)))).1 140 j = σ.1 140 j := fun j => at1 j
        have eb : ∀ j, 32 ≤ j → (qwl σ1 141 (32 + D 0 0) (zcr2 (tkW B (tkE B p)))).2 141 j = if j = 32 + D 0 0 then zcr2 (tkW B (tkE B p)) else σ.2 141 j := fun j hj => by
          rw [qwl_2, f1.2]
          by_cases e : j = 32 + D 0 0
          · rw [if_pos ⟨rfl, e⟩, if_pos e]
          · rw [if_neg (by omega), if_neg e]
        have fa : zG zPq0 zRq σ (qwl σ1 141 (32 + D 0 0) (zcr2 (tkW B (tkE B p)))) := (zPw_q0 (zPa_w f1)).tr (zG.wl ⟨rfl, by omega, by omega⟩)
        generalize qwl σ1 141 (32 + D 0 0) (zcr2 (tkW B (tkE B p))) = σa at p2 ea eb fa ⊢
        have mono : ∀ {pc : Nat} {lo : qLo} {st : List qPV} {σ1 : qSg}, qV 249 7 (zByQ B n (D 0 0) (zpBoyN B (D 0 2 * D 0 3) (tkE B (tkE B p))) σa) pc lo st σ1 → qV 249 7 (.inl fun r σ' => zPo (zbd (zpBoyN B (D 0 2 * D 0 3) (tkE B (tkE B p))) fun r => .inr ((zcome D r.1.1 r.1.2.1 r.1.2.2.1 r.1.2.2.2, fun b => if b = D 0 0 then tkW B (tkE B p) else N b), r.2)) r σ' (fun v => zPd σ' B n v.2 ∧ zDr σ' v.1.1 v.1.2) ∧ zG zPq0 zRq σ σ') pc lo st σ1 := fun hq => hq.mono fun r σ' hh => by
          refine ⟨?_, fa.tr (zPby_q0 (by omega) hh.2)⟩
          rcases zPo_c hh.1 with ⟨e, he, rfl, hf⟩ | ⟨v, hv, rfl, hv1⟩
          · exact zPo_l (by rw [he]; rfl) rfl hf
          · exact zPo_r (by rw [hv]; rfl) rfl ⟨hv1.1, hd.boy hw (by omega) ea eb hh.2 hv1⟩
        have bad : ∀ {σ2 : qSg} {e : Nat × Nat}, zF (zPby (D 0 0)) σa σ2 → zpBoyN B (D 0 2 * D 0 3) (tkE B (tkE B p)) = .inl e → zFl σ2 e → zPo (zbd (zpBoyN B (D 0 2 * D 0 3) (tkE B (tkE B p))) fun r => .inr ((zcome D r.1.1 r.1.2.1 r.1.2.2.1 r.1.2.2.2, fun b => if b = D 0 0 then tkW B (tkE B p) else N b), r.2)) (nI 0) σ2 (fun v => zPd σ2 B n v.2 ∧ zDr σ2 v.1.1 v.1.2) ∧ zG zPq0 zRq σ σ2 := fun f he hf =>
          ⟨zPo_l (by rw [he]; rfl) rfl hf, fa.tr (zPby_q0 (by omega) f)⟩
        refine qBV.of (m_next hB ht.2.2.1 p2) (by decide) (fun σ2 g3 => ?_)
        obtain ⟨p3, f2⟩ := g3
        have F2 : zF (zPby (D 0 0)) σa σ2 := zPby_w (zPa_w f2)
        refine qBI.of (m_wantWord hB ht2.2.2.1 p3 (k := 5) (by decide)) (by decide) (fun r σ3 g3 => ?_)
        obtain ⟨g3, f3⟩ := g3
        have F3 := F2.tr (zPby_w (b := D 0 0) f3)
        rcases zPo_c g3 with ⟨e, he, rfl, hf⟩ | ⟨q1, hq1, rfl, w1⟩
        · simp (disch := omega) only [nI_leI, nI_ltI, nI_eq, nI_cl, qin_eq, nI_add, nI_mul, qb_z, qb_t, qb_f, nI_ne0', Nat.reduceAdd, Bool.false_eq_true, if_false, if_true, true_and, and_true, Nat.reduceEqDiff, not_true_eq_false, not_false_eq_true, false_implies, true_implies, ite_true, ite_false]
          exact bad F3 (by simp only [zpBoyN, he, zbd]) hf
        · simp (disch := omega) only [nI_leI, nI_ltI, nI_eq, nI_cl, qin_eq, nI_add, nI_mul, qb_z, qb_t, qb_f, nI_ne0', Nat.reduceAdd, Bool.false_eq_true, if_false, if_true, true_and, and_true, Nat.reduceEqDiff, not_true_eq_false, not_false_eq_true, false_implies, true_implies, ite_true, ite_false]
          have s1 := zpK_inr hB ht2.2.2.1 (by decide) hq1
          have c2 : σ3.1 140 1826 = nI (D 0 2) := by rw [zPw_at f3, zPa_at f2, ea]; exact a2
          have c3 : σ3.1 140 1827 = nI (D 0 3) := by rw [zPw_at f3, zPa_at f2, ea]; exact a3
          rw [c2, c3, nI_mul, nI_sub hc.1]
          refine qBI.of (m_number hB s1.2 w1 (t := 1832 + 5 * D 0 0) (lo := 0) (hi := D 0 2 * D 0 3 - 1) (by omega) (by decide) (by omega)) (by decide) (fun r σ4 g4 => ?_)
          obtain ⟨g4, f4⟩ := g4
          have F4 := F3.tr (zPby_t (b := D 0 0) f4 (Or.inr (by omega)))
          rcases zPo_c g4 with ⟨e, he, rfl, hf⟩ | ⟨c, hcc, rfl, w2, y1⟩
          · simp (disch := omega) only [nI_leI, nI_ltI, nI_eq, nI_cl, qin_eq, nI_add, nI_mul, qb_z, qb_t, qb_f, nI_ne0', Nat.reduceAdd, Bool.false_eq_true, if_false, if_true, true_and, and_true, Nat.reduceEqDiff, not_true_eq_false, not_false_eq_true, false_implies, true_implies, ite_true, ite_false]
            exact bad F4 (by simp only [zpBoyN, hq1, he, zbd]) hf
          · simp (disch := omega) only [nI_leI, nI_ltI, nI_eq, nI_cl, qin_eq, nI_add, nI_mul, qb_z, qb_t, qb_f, nI_ne0', Nat.reduceAdd, Bool.false_eq_true, if_false, if_true, true_and, and_true, Nat.reduceEqDiff, not_true_eq_false, not_false_eq_true, false_implies, true_implies, ite_true, ite_false]
            have s2 := zpN_inr hB s1.2 hcc
            refine qBI.of (m_wantWord hB s2.2.1 w2 (k := 6) (by decide)) (by decide) (fun r σ5 g5 => ?_)
            obtain ⟨g5, f5⟩ := g5
            have F5 := F4.tr (zPby_w (b := D 0 0) f5)
            rcases zPo_c g5 with ⟨e, he, rfl, hf⟩ | ⟨q2, hq2, rfl, w3⟩
            · simp (disch := omega) only [nI_leI, nI_ltI, nI_eq, nI_cl, qin_eq, nI_add, nI_mul, qb_z, qb_t, qb_f, nI_ne0', Nat.reduceAdd, Bool.false_eq_true, if_false, if_true, true_and, and_true, Nat.reduceEqDiff, not_true_eq_false, not_false_eq_true, false_implies, true_implies, ite_true, ite_false]
              exact bad F5 (by simp only [zpBoyN, hq1, hcc, he, zbd]) hf
            · simp (disch := omega) only [nI_leI, nI_ltI, nI_eq, nI_cl, qin_eq, nI_add, nI_mul, qb_z, qb_t, qb_f, nI_ne0', Nat.reduceAdd, Bool.false_eq_true, if_false, if_true, true_and, and_true, Nat.reduceEqDiff, not_true_eq_false, not_false_eq_true, false_implies, true_implies, ite_true, ite_false]
              have s3 := zpK_inr hB s2.2.1 (by decide) hq2
              refine qBI.of (m_number hB s3.2 w3 (t := 1832 + 5 * D 0 0 + 1) (lo := 1) (hi := 30) (by omega) (by decide) (by decide)) (by decide) (fun r σ6 g6 => ?_)
              obtain ⟨g6, f6⟩ := g6
              have F6 := F5.tr (zPby_t (b := D 0 0) f6 (Or.inr (by omega)))
              rcases zPo_c g6 with ⟨e, he, rfl, hf⟩ | ⟨pr, hpr, rfl, w4, y2⟩
              · simp (disch := omega) only [nI_leI, nI_ltI, nI_eq, nI_cl, qin_eq, nI_add, nI_mul, qb_z, qb_t, qb_f, nI_ne0', Nat.reduceAdd, Bool.false_eq_true, if_false, if_true, true_and, and_true, Nat.reduceEqDiff, not_true_eq_false, not_false_eq_true, false_implies, true_implies, ite_true, ite_false]
                exact bad F6 (by simp only [zpBoyN, hq1, hcc, hq2, he, zbd]) hf
              · simp (disch := omega) only [nI_leI, nI_ltI, nI_eq, nI_cl, qin_eq, nI_add, nI_mul, qb_z, qb_t, qb_f, nI_ne0', Nat.reduceAdd, Bool.false_eq_true, if_false, if_true, true_and, and_true, Nat.reduceEqDiff, not_true_eq_false, not_false_eq_true, false_implies, true_implies, ite_true, ite_false]
                have s4 := zpN_inr hB s3.2 hpr
                refine mono (boy_148 hB (by omega) F6 (c := c.1) (p := pr.1) s4.2.1 (by simp only [zpBoyN, hq1, hcc, hq2, hpr, zbd_r]) w4 ?_ ?_ y2)
                · rw [zPto_at f6 (by omega), zPw_at f5, zPto_at f4 (by omega), zPw_at f3, zPa_at f2, ea]; exact a0
                · rw [zPto_at f6 (by omega), zPw_at f5]; exact y1
      · rw [if_neg e1]
        refine ⟨fun g3 => ?_, fun _ => ?_⟩
        · exfalso
          rw [qeq, nI_t (by omega), iI_toInt (by decide) (by decide)] at g3
          omega
        · refine qBI.of (m_fails p1) (by decide) (fun r σ2 g3 => ?_)
          obtain ⟨rfl, g4, g5⟩ := g3
          exact ⟨Or.inl rfl, zPo_l (by unfold zpBoy; rw [if_neg g, if_neg (by rw [g2']; decide), if_pos e1]) rfl g4, (zPw_q0 (zPa_w f1)).tr (zPw_q0 g5)⟩
    · refine qBI.of (m_fails p1) (by decide) (fun r σ2 g3 => ?_)
      obtain ⟨rfl, g4, g5⟩ := g3
      exact ⟨Or.inl rfl, zPo_l (by unfold zpBoy; rw [if_neg g, if_pos g2]) rfl g4, (zPw_q0 (zPa_w f1)).tr (zPw_q0 g5)⟩
  · refine qBI.of (m_fails h) (by decide) (fun r σ2 g3 => ?_)
    obtain ⟨rfl, g4, g5⟩ := g3
    exact ⟨Or.inl rfl, zPo_l (by unfold zpBoy; rw [if_pos g]) rfl g4, zPw_q0 g5⟩
