/-! the reference: a camp's part -/
def zPq (a j : Nat) : Prop := zPw a j ∨ (a = 140 ∧ 1824 ≤ j ∧ j < 2280 ∧ j ≠ 1830) ∨ (a = 139 ∧ j = 20)
theorem zPw_q {σ σ' : qSg} (f : zF zPw σ σ') : zG zPq zRq σ σ' := f.g fun _ _ h => Or.inl h
theorem zPq_0 {σ σ' : qSg} (f : zG zPq0 zRq σ σ') : zG zPq zRq σ σ' := f.wk (fun a j h => h.elim Or.inl (fun h => Or.inr (Or.inl h))) (fun _ _ h => h)
theorem zPd.kp {σ σ' : qSg} {B : Nat → Nat} {n p : Nat} (h : zPd σ B n p) (e : ∀ j, σ'.1 146 j = σ.1 146 j) (e' : ∀ j, j = 11 ∨ j = 12 ∨ j = 13 ∨ j = 14 ∨ j = 15 ∨ j = 18 ∨ j = 17 → σ'.1 139 j = σ.1 139 j) : zPd σ' B n p := by
  obtain ⟨⟨⟨t1, t2⟩, t3, t4, t5, t6⟩, t7, t8⟩ := h
  refine ⟨⟨⟨fun k hk => ?_, ?_⟩, ?_, ?_, ?_, fun hh => ?_⟩, ?_, ?_⟩
  · rw [e]; exact t1 k hk
  · rw [e' _ (by omega)]; exact t2
  · rw [e' _ (by omega)]; exact t3
  · rw [e' _ (by omega)]; exact t4
  · rw [e' _ (by omega)]; exact t5
  · rw [e' _ (by omega)]; exact t6 hh
  · rw [e' _ (by omega)]; exact t7
  · rw [e' _ (by omega)]; exact t8
theorem zDr.kp {σ σ' : qSg} {D : zC} {N : Nat → List Nat} (h : zDr σ D N) (e : ∀ j, σ'.1 140 j = σ.1 140 j) (e2 : ∀ j, σ'.2 141 j = σ.2 141 j) : zDr σ' D N := by
  obtain ⟨⟨d1, d2, d3⟩, d4, d5, d6⟩ := h
  refine ⟨⟨fun j hj => ?_, fun b hb f hf => ?_, fun q hq f hf => ?_⟩, fun b hb => ?_, fun b h1 h2 => ?_, fun q h1 h2 => ?_⟩
  · rw [e]; exact d1 j hj
  · rw [e]; exact d2 b hb f hf
  · rw [e]; exact d3 q hq f hf
  · rw [e2]; exact d4 b hb
  · rw [e]; exact d5 b h1 h2
  · rw [e]; exact d6 q h1 h2
/-- a number of the draft is set -/
theorem zDr.one {σ σ' : qSg} {D : zC} {N : Nat → List Nat} (h : zDr σ D N) (hb : D 0 0 ≤ 8) (hq : D 0 1 ≤ 10) {t v : Nat} (ht : t = 2 ∨ t = 3 ∨ t = 4) (e : ∀ j, 1824 ≤ j → j ≠ 1824 + t → σ'.1 140 j = σ.1 140 j) (e1 : σ'.1 140 (1824 + t) = nI v) (e2 : ∀ j, σ'.2 141 j = σ.2 141 j) : zDr σ' (zu D 0 t v) N := by
  obtain ⟨⟨d1, d2, d3⟩, d4, d5, d6⟩ := h
  have e0 : zu D 0 t v 0 0 = D 0 0 := zu_ne (by omega)
  have e01 : zu D 0 t v 0 1 = D 0 1 := zu_ne (by omega)
  refine ⟨⟨fun j hj => ?_, fun b hb f hf => ?_, fun q hq f hf => ?_⟩, fun b hb => ?_, fun b h1 h2 => ?_, fun q h1 h2 => ?_⟩
  · by_cases ej : j = t
    · subst ej
      rw [zu_eq]
      exact e1
    · rw [zu_ne (by omega), e _ (by omega) (by omega)]
      exact d1 j hj
  · rw [e0] at hb
    rw [zu_ne (by omega), e _ (by omega) (by omega)]
    exact d2 b hb f hf
  · rw [e01] at hq
    rw [zu_ne (by omega), e _ (by omega) (by omega)]
    exact d3 q hq f hf
  · rw [e0] at hb
    rw [e2]
    exact d4 b hb
  · rw [e0] at h1
    rw [e _ (by omega) (by omega)]
    exact d5 b h1 h2
  · rw [e01] at h1
    rw [e _ (by omega) (by omega)]
    exact d6 q h1 h2
/-- what is told already: a field (or a boy), odds -/
def zTP (σ : qSg) (f o : Bool) : Prop := ∃ tp, σ.1 139 20 = nI tp ∧ tp < 16 ∧ tp.testBit 0 = f ∧ tp.testBit 1 = o
theorem zTP.kp {σ σ' : qSg} {f o : Bool} (h : zTP σ f o) (e : σ'.1 139 20 = σ.1 139 20) : zTP σ' f o := by
  obtain ⟨tp, h1, h2⟩ := h
  exact ⟨tp, by rw [e]; exact h1, h2⟩
theorem zkI_lt0 {y : Nat} (hy : y ≤ 22) : (zkI y < 0) = (y = 22) := by
  rw [qlt0]
  unfold zkI
  apply propext
  by_cases h : y < 22
  · rw [if_pos h, nI_t (by omega)]; omega
  · rw [if_neg h, iI_toInt (by decide) (by decide)]; omega
theorem zkI_le {y k : Nat} (hy : y ≤ 22) (hk : k < 22) : (zkI y ≤ nI k) = (y ≤ k ∨ y = 22) := by
  rw [qle]
  unfold zkI
  apply propext
  by_cases h : y < 22
  · rw [if_pos h, nI_t (by omega), nI_t (by omega)]; omega
  · rw [if_neg h, iI_toInt (by decide) (by decide), nI_t (by omega)]; omega
theorem zkI_k {y : Nat} (h : y < 22) : zkI y = nI y := if_pos h
def zPfin (B : Nat → Nat) (n : Nat) (R : zR (zS × Nat)) (σ : qSg) (r : Int32) (σ' : qSg) : Prop :=
  zPo R r σ' (fun v => zPd σ' B n v.2 ∧ zDr σ' v.1.1 v.1.2.1 ∧ zTP σ' v.1.2.2.1 v.1.2.2.2) ∧ zG zPq zRq σ σ'
set_option maxRecDepth 20000 in
theorem part_139 {σ σ1 : qSg} {B : Nat → Nat} {n p : Nat} {s : zS} (hB : zBW B n) (hp : p ≤ n) (hs : zSW s) {r : Int32} {l1 : Option qPV} (h : zPfin B n (zpPart0 B s p) σ r σ1) :
    qV 251 9 (.inl (zPfin B n (zpPart B s p) σ)) 139 [some (qr 139), l1, some (qi r)] [] σ1 := by
  obtain ⟨h, f⟩ := h
  refine qV.go 30 [9999] ok_251 ?_
  simp only [qW_nop, qW_iconst, qW_bipush, qW_sipush, qW_ldcs, qW_iloadn, qW_aloadn, qW_istoren, qW_iand, qW_ior, qW_ishl, qW_ishr, qW_dup, qW_ifeq, qW_icne, qW_iflt, qW_icgt, qW_icle, qW_goto, qW_tsw, qW_getf, qW_cv1_0, qW_cv1_2, qW_cv2_0, qW_cv4_0, qW_iret1, qW_putf0, Nat.reduceAdd, Nat.reduceMul, Nat.reduceBEq, Nat.reduceEqDiff, Nat.reduceLT, Nat.reduceLeDiff, Nat.zero_le, nI_add, nI_mul, nI_cl, qin_eq, qofI, qlg_0, qlg_s, qls_i0, qls_r0, qls_l0, qls_1, qls_2, qkl_i, qkl_r, qkl_l, qkl_n, qIsI_i, qIsL_l, qIsR_r, qint_i, qil_i, qil_r, qil_l, qf4_0, qf4_1, qf4_2, qf4_3, qf2_0, qf2_1, qcs_n, qcs_i, qcs_r, qcs_l, qst_n, qst_c, qJ_0, qJ_st, qJ_go, qfl_I, qfl_Z, qfl_L, qfl_R, qrI_i, qrL_l, qrV_v, qRcv_0, qRcv_s, eq_self, true_and, and_true, true_or, or_true, false_and, and_false, false_or, or_false, ite_true, if_true, if_false, Bool.true_or, Bool.false_or, Bool.or_false, beq_self_eq_true, Bool.false_eq_true, bX12_campPart_0, bX12_campPart_16, bX12_campPart_22, bX12_campPart_45, bX12_campPart_62, bX12_campPart_63, bX12_campPart_77, bX12_campPart_104, bX12_campPart_112, bX12_campPart_126, bX12_campPart_134, bX12_campPart_139, bX12_campPart_156, bX12_campPart_157, kX12_campPart_0, kX12_campPart_16, kX12_campPart_22, kX12_campPart_45, kX12_campPart_62, kX12_campPart_63, kX12_campPart_77, kX12_campPart_104, kX12_campPart_112, kX12_campPart_126, kX12_campPart_134, kX12_campPart_139, kX12_campPart_156, kX12_campPart_157, qK_139, qR_139_0, qK_140, qR_139_1, qK_141, qR_139_5, qK_142, qR_139_6, qK_143, qR_139_7, qK_144, qR_139_8, qK_145, qR_139_9, qK_146, qR_139_21, qK_147, qR_139_25, qK_148, qR_139_30, qK_149, qR_139_31, qK_150, qR_139_33, qK_151, qR_139_34, qK_152, qR_139_35, qK_153, qR_139_36, qK_154, qR_139_39, qK_155, qR_139_40, qK_156, qR_139_41, qK_157]
  rcases zPo_c h with ⟨e, he, rfl, hf⟩ | ⟨v, hv, rfl, v1, v2, v3⟩
  · simp (disch := omega) only [nI_leI, nI_ltI, nI_eq, nI_cl, qin_eq, nI_add, nI_mul, qb_z, qb_t, qb_f, nI_ne0', Nat.reduceAdd, Bool.false_eq_true, if_false, if_true, true_and, and_true, Nat.reduceEqDiff, not_true_eq_false, not_false_eq_true, false_implies, true_implies, ite_true, ite_false]
    exact ⟨zPo_l (by unfold zpPart; rw [he]; rfl) rfl hf, f⟩
  · simp (disch := omega) only [nI_leI, nI_ltI, nI_eq, nI_cl, qin_eq, nI_add, nI_mul, qb_z, qb_t, qb_f, nI_ne0', Nat.reduceAdd, Bool.false_eq_true, if_false, if_true, true_and, and_true, Nat.reduceEqDiff, not_true_eq_false, not_false_eq_true, false_implies, true_implies, ite_true, ite_false]
    have s1 := zpPart0_inr hB hp hs hv
    refine qBI.of (m_wantSign hB s1.2.1 v1 (c := 59) (by decide)) (by decide) (fun r σ2 g => ?_)
    obtain ⟨g, f2⟩ := g
    rcases zPo_c g with ⟨e, he, rfl, hf⟩ | ⟨q, hq, rfl, p2⟩
    · simp (disch := omega) only [nI_leI, nI_ltI, nI_eq, nI_cl, qin_eq, nI_add, nI_mul, qb_z, qb_t, qb_f, nI_ne0', Nat.reduceAdd, Bool.false_eq_true, if_false, if_true, true_and, and_true, Nat.reduceEqDiff, not_true_eq_false, not_false_eq_true, false_implies, true_implies, ite_true, ite_false]
      exact ⟨zPo_l (by unfold zpPart; rw [hv]; simp only [zbd_r]; rw [he]; rfl) rfl hf, f.tr (zPw_q f2)⟩
    · simp (disch := omega) only [nI_leI, nI_ltI, nI_eq, nI_cl, qin_eq, nI_add, nI_mul, qb_z, qb_t, qb_f, nI_ne0', Nat.reduceAdd, Bool.false_eq_true, if_false, if_true, true_and, and_true, Nat.reduceEqDiff, not_true_eq_false, not_false_eq_true, false_implies, true_implies, ite_true, ite_false]
      refine ⟨zPo_r (a := (v.1, q)) (by unfold zpPart; rw [hv]; simp only [zbd_r]; rw [hq]; rfl) rfl ⟨p2, v2.kp (zPw_at f2) (fun j => by rw [f2.2]), v3.kp (f2.1 _ _ (by unfold zPw; omega))⟩, f.tr (zPw_q f2)⟩
theorem zor_bit {t b k : Nat} : (t ||| b).testBit k = (t.testBit k || b.testBit k) := Nat.testBit_or t b k
set_option maxRecDepth 20000 in
theorem m_campPart {σ : qSg} {B : Nat → Nat} {n p : Nat} {s : zS} (hB : zBW B n) (hp : p ≤ n) (hs : zSW s) (h : zPd σ B n p) (hd : zDr σ s.1 s.2.1) (ht : zTP σ s.2.2.1 s.2.2.2) :
    qCI 9 251 [qr 139] σ (zPfin B n (zpPart B s p) σ) := by
  obtain ⟨hw, hN, hf, h5⟩ := id hs
  have wb := hw.1
  have wq := hw.2.1
  have tk := tkE_spec hB hp
  have hy := tkY_le B p
  refine qCI.of [some (qr 139), none, none] ok_251 (Nat.le_of_ble_eq_true rfl) rfl ?_
  refine qV.go 30 [45, 139] ok_251 ?_
  simp only [qW_nop, qW_iconst, qW_bipush, qW_sipush, qW_ldcs, qW_iloadn, qW_aloadn, qW_istoren, qW_iand, qW_ior, qW_ishl, qW_ishr, qW_dup, qW_ifeq, qW_icne, qW_iflt, qW_icgt, qW_icle, qW_goto, qW_tsw, qW_getf, qW_cv1_0, qW_cv1_2, qW_cv2_0, qW_cv4_0, qW_iret1, qW_putf0, Nat.reduceAdd, Nat.reduceMul, Nat.reduceBEq, Nat.reduceEqDiff, Nat.reduceLT, Nat.reduceLeDiff, Nat.zero_le, nI_add, nI_mul, nI_cl, qin_eq, qofI, qlg_0, qlg_s, qls_i0, qls_r0, qls_l0, qls_1, qls_2, qkl_i, qkl_r, qkl_l, qkl_n, qIsI_i, qIsL_l, qIsR_r, qint_i, qil_i, qil_r, qil_l, qf4_0, qf4_1, qf4_2, qf4_3, qf2_0, qf2_1, qcs_n, qcs_i, qcs_r, qcs_l, qst_n, qst_c, qJ_0, qJ_st, qJ_go, qfl_I, qfl_Z, qfl_L, qfl_R, qrI_i, qrL_l, qrV_v, qRcv_0, qRcv_s, eq_self, true_and, and_true, true_or, or_true, false_and, and_false, false_or, or_false, ite_true, if_true, if_false, Bool.true_or, Bool.false_or, Bool.or_false, beq_self_eq_true, Bool.false_eq_true, bX12_campPart_0, bX12_campPart_16, bX12_campPart_22, bX12_campPart_45, bX12_campPart_62, bX12_campPart_63, bX12_campPart_77, bX12_campPart_104, bX12_campPart_112, bX12_campPart_126, bX12_campPart_134, bX12_campPart_139, bX12_campPart_156, bX12_campPart_157, kX12_campPart_0, kX12_campPart_16, kX12_campPart_22, kX12_campPart_45, kX12_campPart_62, kX12_campPart_63, kX12_campPart_77, kX12_campPart_104, kX12_campPart_112, kX12_campPart_126, kX12_campPart_134, kX12_campPart_139, kX12_campPart_156, kX12_campPart_157, qK_139, qR_139_0, qK_140, qR_139_1, qK_141, qR_139_5, qK_142, qR_139_6, qK_143, qR_139_7, qK_144, qR_139_8, qK_145, qR_139_9, qK_146, qR_139_21, qK_147, qR_139_25, qK_148, qR_139_30, qK_149, qR_139_31, qK_150, qR_139_33, qK_151, qR_139_34, qK_152, qR_139_35, qK_153, qR_139_36, qK_154, qR_139_39, qK_155, qR_139_40, qK_156, qR_139_41, qK_157]
  refine qBI.fn (m_inWords hB hp h.1) (by decide) ?_
  rw [zkI_lt0 hy, zkI_le hy (show 3 < 22 by decide)]
  have no2 : (3 < tkY B p) → qBI 9 234 [qr 139, qi (nI 2)] σ (fun r σ' => (r = nI 0 ∨ r = nI 1) ∧ zPfin B n (zpPart B s p) σ r σ') := fun h3 => by
    refine qBI.of (m_fails h) (by decide) (fun r σ2 g3 => ?_)
    obtain ⟨rfl, g4, g5⟩ := g3
    refine ⟨Or.inl rfl, zPo_l ?_ rfl g4, zPw_q g5⟩
    unfold zpPart zpPart0
    rw [if_neg (by omega), if_neg (by omega), if_neg (by omega), if_neg (by omega)]
    rfl
  refine ⟨fun e => no2 (by omega), fun e => ⟨fun e1 => ?_, fun e1 => no2 (by omega)⟩⟩
  have hy3 : tkY B p ≤ 3 := by omega
  rw [zkI_k (by omega)]
  obtain ⟨tp, tp1, tp2, tp3, tp4⟩ := ht
  rw [tp1, nI_bit (by omega) (by omega)]
  simp (disch := omega) only [nI_leI, nI_ltI, nI_eq, nI_cl, qin_eq, nI_add, nI_mul, qb_z, qb_t, qb_f, nI_ne0', Nat.reduceAdd, Bool.false_eq_true, if_false, if_true, true_and, and_true, Nat.reduceEqDiff, not_true_eq_false, not_false_eq_true, false_implies, true_implies, ite_true, ite_false]
  -- the part itself
  have go : ¬ (tkY B p = 0 ∧ s.2.2.1 = true) → ¬ (tkY B p = 1 ∧ s.2.2.2 = true) → qV 251 9 (.inl (zPfin B n (zpPart B s p) σ)) 45 [some (qr 139), some (qi (nI (tkY B p))), none] [] σ := by
    intro n0 n1
    have sub : ∀ b, b < 2 → ∀ σ2, σ2 = qwi σ 139 20 (nI (tp ||| (2 ^ tkY B p ||| b))) → (zPd σ2 B n p ∧ zDr σ2 s.1 s.2.1 ∧ zG zPq zRq σ σ2 ∧ zTP σ2 (s.2.2.1 || decide (tkY B p = 0) || decide (b = 1)) (s.2.2.2 || decide (tkY B p = 1))) := by
      intro b hb σ2 e2
      subst e2
      refine ⟨h.kp (fun j => by rw [qwi_1, if_neg (by omega)]) (fun j hj => by rw [qwi_1, if_neg (by omega)]), hd.kp (fun j => by rw [qwi_1, if_neg (by omega)]) (fun j => rfl), (zF.wi (P := zPq) (Or.inr (Or.inr ⟨rfl, rfl⟩))).g (fun _ _ h => h), ⟨tp ||| (2 ^ tkY B p ||| b), by rw [qwi_1, if_pos ⟨rfl, rfl⟩], ?_, ?_, ?_⟩⟩
      · have l1 : 2 ^ tkY B p < 2 ^ 4 := Nat.pow_lt_pow_right (by decide) (by omega)
        exact Nat.or_lt_two_pow (n := 4) tp2 (Nat.or_lt_two_pow (n := 4) l1 (by omega))
      · rw [zor_bit, zor_bit, tp3, Nat.testBit_two_pow]
        rcases (show b = 0 ∨ b = 1 by omega) with rfl | rfl
        · simp
        · simp
      · rw [zor_bit, zor_bit, tp4, Nat.testBit_two_pow]
        rcases (show b = 0 ∨ b = 1 by omega) with rfl | rfl
        · simp
        · have : Nat.testBit 1 1 = false := by decide
          rw [this, Bool.or_false]
    have ah : ∀ {σ2 : qSg} {f o : Bool}, zPd σ2 B n p → zDr σ2 s.1 s.2.1 → zG zPq zRq σ σ2 → zTP σ2 f o → ∀ K : qSg → Prop, (∀ σ3, zPd σ3 B n (tkE B p) → zDr σ3 s.1 s.2.1 → zG zPq zRq σ σ3 → zTP σ3 f o → K σ3) → qBV 9 231 [qr 139] σ2 K := by
      intro σ2 f o q1 q2 q3 q4 K hK
      refine qBV.of (m_next hB hp q1) (by decide) (fun σ3 g3 => ?_)
      exact hK σ3 g3.1 (q2.kp (zPa_at g3.2) (fun j => by rw [g3.2.2])) (q3.tr (zPw_q (zPa_w g3.2))) (q4.kp (g3.2.1 _ _ (by unfold zPa; omega)))
    rcases (show tkY B p = 0 ∨ tkY B p = 1 ∨ tkY B p = 2 ∨ tkY B p = 3 by omega) with e0 | e0 | e0 | e0
    · -- a field
      rw [e0] at sub ⊢
      have eR : zpPart0 B s p = zbd (zpField B (tkE B p)) fun r => .inr ((zu (zu s.1 0 2 r.1.1) 0 3 r.1.2, s.2.1, true, s.2.2.2), r.2) := by
        unfold zpPart0
        rw [if_pos e0, if_neg (fun hh => n0 ⟨e0, hh⟩)]
      refine qV.go 30 [104, 112, 126, 134, 139] ok_251 ?_
      simp only [qW_nop, qW_iconst, qW_bipush, qW_sipush, qW_ldcs, qW_iloadn, qW_aloadn, qW_istoren, qW_iand, qW_ior, qW_ishl, qW_ishr, qW_dup, qW_ifeq, qW_icne, qW_iflt, qW_icgt, qW_icle, qW_goto, qW_tsw, qW_getf, qW_cv1_0, qW_cv1_2, qW_cv2_0, qW_cv4_0, qW_iret1, qW_putf0, Nat.reduceAdd, Nat.reduceMul, Nat.reduceBEq, Nat.reduceEqDiff, Nat.reduceLT, Nat.reduceLeDiff, Nat.zero_le, nI_add, nI_mul, nI_cl, qin_eq, qofI, qlg_0, qlg_s, qls_i0, qls_r0, qls_l0, qls_1, qls_2, qkl_i, qkl_r, qkl_l, qkl_n, qIsI_i, qIsL_l, qIsR_r, qint_i, qil_i, qil_r, qil_l, qf4_0, qf4_1, qf4_2, qf4_3, qf2_0, qf2_1, qcs_n, qcs_i, qcs_r, qcs_l, qst_n, qst_c, qJ_0, qJ_st, qJ_go, qfl_I, qfl_Z, qfl_L, qfl_R, qrI_i, qrL_l, qrV_v, qRcv_0, qRcv_s, eq_self, true_and, and_true, true_or, or_true, false_and, and_false, false_or, or_false, ite_true, if_true, if_false, Bool.true_or, Bool.false_or, Bool.or_false, beq_self_eq_true, Bool.false_eq_true, bX12_campPart_0, bX12_campPart_16, bX12_campPart_22, bX12_campPart_45, bX12_campPart_62, bX12_campPart_63, bX12_campPart_77, bX12_campPart_104, bX12_campPart_112, bX12_campPart_126, bX12_campPart_134, bX12_campPart_139, bX12_campPart_156, bX12_campPart_157, kX12_campPart_0, kX12_campPart_16, kX12_campPart_22, kX12_campPart_45, kX12_campPart_62, kX12_campPart_63, kX12_campPart_77, kX12_campPart_104, kX12_campPart_112, kX12_campPart_126, kX12_campPart_134, kX12_campPart_139, kX12_campPart_156, kX12_campPart_157, qK_139, qR_139_0, qK_140, qR_139_1, qK_141, qR_139_5, qK_142, qR_139_6, qK_143, qR_139_7, qK_144, qR_139_8, qK_145, qR_139_9, qK_146, qR_139_21, qK_147, qR_139_25, qK_148, qR_139_30, qK_149, qR_139_31, qK_150, qR_139_33, qK_151, qR_139_34, qK_152, qR_139_35, qK_153, qR_139_36, qK_154, qR_139_39, qK_155, qR_139_40, qK_156, qR_139_41, qK_157]
      rw [tp1, qshl1 (by omega)]
      simp only [nI_or]
      simp (disch := omega) only [nI_leI, nI_ltI, nI_eq, nI_cl, qin_eq, nI_add, nI_mul, qb_z, qb_t, qb_f, nI_ne0', Nat.reduceAdd, Bool.false_eq_true, if_false, if_true, true_and, and_true, Nat.reduceEqDiff, not_true_eq_false, not_false_eq_true, false_implies, true_implies, ite_true, ite_false]
      obtain ⟨q1, q2, q3, q4⟩ := sub 0 (by decide) _ rfl
      refine ⟨fun hh => absurd hh (by decide), fun _ => ?_⟩
      refine ah q1 q2 q3 q4 _ (fun σ3 w1 w2 w3 w4 => ?_)
      rw [qsw]
      simp only [qsl, nI_t (show 0 < 2147483648 by decide)]
      refine ⟨fun hh => absurd hh (by decide), fun _ => ?_, fun hh => absurd hh (by decide), fun hh => absurd hh (by decide), trivial⟩
      rw [qJ_st _ _ _ _ _ (by rfl)]
      refine qV.go 30 [139] ok_251 ?_
      simp only [qW_nop, qW_iconst, qW_bipush, qW_sipush, qW_ldcs, qW_iloadn, qW_aloadn, qW_istoren, qW_iand, qW_ior, qW_ishl, qW_ishr, qW_dup, qW_ifeq, qW_icne, qW_iflt, qW_icgt, qW_icle, qW_goto, qW_tsw, qW_getf, qW_cv1_0, qW_cv1_2, qW_cv2_0, qW_cv4_0, qW_iret1, qW_putf0, Nat.reduceAdd, Nat.reduceMul, Nat.reduceBEq, Nat.reduceEqDiff, Nat.reduceLT, Nat.reduceLeDiff, Nat.zero_le, nI_add, nI_mul, nI_cl, qin_eq, qofI, qlg_0, qlg_s, qls_i0, qls_r0, qls_l0, qls_1, qls_2, qkl_i, qkl_r, qkl_l, qkl_n, qIsI_i, qIsL_l, qIsR_r, qint_i, qil_i, qil_r, qil_l, qf4_0, qf4_1, qf4_2, qf4_3, qf2_0, qf2_1, qcs_n, qcs_i, qcs_r, qcs_l, qst_n, qst_c, qJ_0, qJ_st, qJ_go, qfl_I, qfl_Z, qfl_L, qfl_R, qrI_i, qrL_l, qrV_v, qRcv_0, qRcv_s, eq_self, true_and, and_true, true_or, or_true, false_and, and_false, false_or, or_false, ite_true, if_true, if_false, Bool.true_or, Bool.false_or, Bool.or_false, beq_self_eq_true, Bool.false_eq_true, bX12_campPart_0, bX12_campPart_16, bX12_campPart_22, bX12_campPart_45, bX12_campPart_62, bX12_campPart_63, bX12_campPart_77, bX12_campPart_104, bX12_campPart_112, bX12_campPart_126, bX12_campPart_134, bX12_campPart_139, bX12_campPart_156, bX12_campPart_157, kX12_campPart_0, kX12_campPart_16, kX12_campPart_22, kX12_campPart_45, kX12_campPart_62, kX12_campPart_63, kX12_campPart_77, kX12_campPart_104, kX12_campPart_112, kX12_campPart_126, kX12_campPart_134, kX12_campPart_139, kX12_campPart_156, kX12_campPart_157, qK_139, qR_139_0, qK_140, qR_139_1, qK_141, qR_139_5, qK_142, qR_139_6, qK_143, qR_139_7, qK_144, qR_139_8, qK_145, qR_139_9, qK_146, qR_139_21, qK_147, qR_139_25, qK_148, qR_139_30, qK_149, qR_139_31, qK_150, qR_139_33, qK_151, qR_139_34, qK_152, qR_139_35, qK_153, qR_139_36, qK_154, qR_139_39, qK_155, qR_139_40, qK_156, qR_139_41, qK_157]
      refine qBI.of (m_aField hB tk.2.2.1 w1) (by decide) (fun r σ4 g4 => ?_)
      obtain ⟨g4, f4⟩ := g4
      have fg : zG zPq zRq σ3 σ4 := f4.g fun a j hh => by
        unfold zPfi at hh
        unfold zPq
        rcases hh with hh | ⟨hh, h2⟩
        · exact Or.inl hh
        · exact Or.inr (Or.inl ⟨hh, by omega⟩)
      refine part_139 hB hp hs ⟨?_, w3.tr fg⟩
      rcases zPo_c g4 with ⟨e, he, rfl, hf⟩ | ⟨v, hv, rfl, v1, v2, v3⟩
      · exact zPo_l (by rw [eR, he]; rfl) rfl hf
      · refine zPo_r (by rw [eR, hv]; rfl) rfl ⟨v1, ?_, ?_⟩
        · have e3 : ∀ j, j ≠ 1826 → j ≠ 1827 → σ4.1 140 j = σ3.1 140 j := fun j h1 h2 => f4.1 _ _ (by unfold zPfi zPw; omega)
          have m1 : zDr (qwi σ3 140 1826 (nI v.1.1)) (zu s.1 0 2 v.1.1) s.2.1 := w2.one wb wq (t := 2) (Or.inl rfl) (fun j h1 h2 => by rw [qwi_1, if_neg (by omega)]) (by rw [qwi_1, if_pos ⟨rfl, rfl⟩]) (fun j => rfl)
          refine m1.one (t := 3) (by rw [zu_ne (by omega)]; exact wb) (by rw [zu_ne (by omega)]; exact wq) (Or.inr (Or.inl rfl)) (fun j h1 h2 => ?_) v3 (fun j => by rw [f4.2]; rfl)
          by_cases ej : j = 1826
          · subst ej
            rw [qwi_1, if_pos ⟨rfl, rfl⟩]
            exact v2
          · rw [qwi_1, if_neg (by omega)]
            exact e3 j ej (by omega)
        · have := w4.kp (σ' := σ4) (f4.1 _ _ (by unfold zPfi zPw; omega))
          simpa using this
    · -- odds
      rw [e0] at sub ⊢
      have eR : zpPart0 B s p = zbd (zpN B 0 16 (tkE B p)) fun r => .inr ((zu s.1 0 4 r.1, s.2.1, s.2.2.1, true), r.2) := by
        unfold zpPart0
        rw [if_neg (by omega), if_pos e0, if_neg (fun hh => n1 ⟨e0, hh⟩)]
      refine qV.go 30 [104, 112, 126, 134, 139] ok_251 ?_
      simp only [qW_nop, qW_iconst, qW_bipush, qW_sipush, qW_ldcs, qW_iloadn, qW_aloadn, qW_istoren, qW_iand, qW_ior, qW_ishl, qW_ishr, qW_dup, qW_ifeq, qW_icne, qW_iflt, qW_icgt, qW_icle, qW_goto, qW_tsw, qW_getf, qW_cv1_0, qW_cv1_2, qW_cv2_0, qW_cv4_0, qW_iret1, qW_putf0, Nat.reduceAdd, Nat.reduceMul, Nat.reduceBEq, Nat.reduceEqDiff, Nat.reduceLT, Nat.reduceLeDiff, Nat.zero_le, nI_add, nI_mul, nI_cl, qin_eq, qofI, qlg_0, qlg_s, qls_i0, qls_r0, qls_l0, qls_1, qls_2, qkl_i, qkl_r, qkl_l, qkl_n, qIsI_i, qIsL_l, qIsR_r, qint_i, qil_i, qil_r, qil_l, qf4_0, qf4_1, qf4_2, qf4_3, qf2_0, qf2_1, qcs_n, qcs_i, qcs_r, qcs_l, qst_n, qst_c, qJ_0, qJ_st, qJ_go, qfl_I, qfl_Z, qfl_L, qfl_R, qrI_i, qrL_l, qrV_v, qRcv_0, qRcv_s, eq_self, true_and, and_true, true_or, or_true, false_and, and_false, false_or, or_false, ite_true, if_true, if_false, Bool.true_or, Bool.false_or, Bool.or_false, beq_self_eq_true, Bool.false_eq_true, bX12_campPart_0, bX12_campPart_16, bX12_campPart_22, bX12_campPart_45, bX12_campPart_62, bX12_campPart_63, bX12_campPart_77, bX12_campPart_104, bX12_campPart_112, bX12_campPart_126, bX12_campPart_134, bX12_campPart_139, bX12_campPart_156, bX12_campPart_157, kX12_campPart_0, kX12_campPart_16, kX12_campPart_22, kX12_campPart_45, kX12_campPart_62, kX12_campPart_63, kX12_campPart_77, kX12_campPart_104, kX12_campPart_112, kX12_campPart_126, kX12_campPart_134, kX12_campPart_139, kX12_campPart_156, kX12_campPart_157, qK_139, qR_139_0, qK_140, qR_139_1, qK_141, qR_139_5, qK_142, qR_139_6, qK_143, qR_139_7, qK_144, qR_139_8, qK_145, qR_139_9, qK_146, qR_139_21, qK_147, qR_139_25, qK_148, qR_139_30, qK_149, qR_139_31, qK_150, qR_139_33, qK_151, qR_139_34, qK_152, qR_139_35, qK_153, qR_139_36, qK_154, qR_139_39, qK_155, qR_139_40, qK_156, qR_139_41, qK_157]
      rw [tp1, qshl1 (by omega)]
      simp only [nI_or]
      simp (disch := omega) only [nI_leI, nI_ltI, nI_eq, nI_cl, qin_eq, nI_add, nI_mul, qb_z, qb_t, qb_f, nI_ne0', Nat.reduceAdd, Bool.false_eq_true, if_false, if_true, true_and, and_true, Nat.reduceEqDiff, not_true_eq_false, not_false_eq_true, false_implies, true_implies, ite_true, ite_false]
      obtain ⟨q1, q2, q3, q4⟩ := sub 0 (by decide) _ rfl
      refine ⟨fun hh => absurd hh (by decide), fun _ => ?_⟩
      refine ah q1 q2 q3 q4 _ (fun σ3 w1 w2 w3 w4 => ?_)
      rw [qsw]
      simp only [qsl, nI_t (show 1 < 2147483648 by decide)]
      refine ⟨fun hh => absurd hh (by decide), fun hh => absurd hh (by decide), fun _ => ?_, fun hh => absurd hh (by decide), trivial⟩
      rw [qJ_st _ _ _ _ _ (by rfl)]
      refine qV.go 30 [139] ok_251 ?_
      simp only [qW_nop, qW_iconst, qW_bipush, qW_sipush, qW_ldcs, qW_iloadn, qW_aloadn, qW_istoren, qW_iand, qW_ior, qW_ishl, qW_ishr, qW_dup, qW_ifeq, qW_icne, qW_iflt, qW_icgt, qW_icle, qW_goto, qW_tsw, qW_getf, qW_cv1_0, qW_cv1_2, qW_cv2_0, qW_cv4_0, qW_iret1, qW_putf0, Nat.reduceAdd, Nat.reduceMul, Nat.reduceBEq, Nat.reduceEqDiff, Nat.reduceLT, Nat.reduceLeDiff, Nat.zero_le, nI_add, nI_mul, nI_cl, qin_eq, qofI, qlg_0, qlg_s, qls_i0, qls_r0, qls_l0, qls_1, qls_2, qkl_i, qkl_r, qkl_l, qkl_n, qIsI_i, qIsL_l, qIsR_r, qint_i, qil_i, qil_r, qil_l, qf4_0, qf4_1, qf4_2, qf4_3, qf2_0, qf2_1, qcs_n, qcs_i, qcs_r, qcs_l, qst_n, qst_c, qJ_0, qJ_st, qJ_go, qfl_I, qfl_Z, qfl_L, qfl_R, qrI_i, qrL_l, qrV_v, qRcv_0, qRcv_s, eq_self, true_and, and_true, true_or, or_true, false_and, and_false, false_or, or_false, ite_true, if_true, if_false, Bool.true_or, Bool.false_or, Bool.or_false, beq_self_eq_true, Bool.false_eq_true, bX12_campPart_0, bX12_campPart_16, bX12_campPart_22, bX12_campPart_45, bX12_campPart_62, bX12_campPart_63, bX12_campPart_77, bX12_campPart_104, bX12_campPart_112, bX12_campPart_126, bX12_campPart_134, bX12_campPart_139, bX12_campPart_156, bX12_campPart_157, kX12_campPart_0, kX12_campPart_16, kX12_campPart_22, kX12_campPart_45, kX12_campPart_62, kX12_campPart_63, kX12_campPart_77, kX12_campPart_104, kX12_campPart_112, kX12_campPart_126, kX12_campPart_134, kX12_campPart_139, kX12_campPart_156, kX12_campPart_157, qK_139, qR_139_0, qK_140, qR_139_1, qK_141, qR_139_5, qK_142, qR_139_6, qK_143, qR_139_7, qK_144, qR_139_8, qK_145, qR_139_9, qK_146, qR_139_21, qK_147, qR_139_25, qK_148, qR_139_30, qK_149, qR_139_31, qK_150, qR_139_33, qK_151, qR_139_34, qK_152, qR_139_35, qK_153, qR_139_36, qK_154, qR_139_39, qK_155, qR_139_40, qK_156, qR_139_41, qK_157]
      refine qBI.of (m_number hB tk.2.2.1 w1 (t := 1828) (lo := 0) (hi := 16) (by decide) (by decide) (by decide)) (by decide) (fun r σ4 g4 => ?_)
      obtain ⟨g4, f4⟩ := g4
      have fg : zG zPq zRq σ3 σ4 := f4.g fun a j hh => by
        unfold zPto at hh
        unfold zPq
        rcases hh with hh | ⟨hh, h2⟩
        · exact Or.inl hh
        · exact Or.inr (Or.inl ⟨hh, by omega⟩)
      refine part_139 hB hp hs ⟨?_, w3.tr fg⟩
      rcases zPo_c g4 with ⟨e, he, rfl, hf⟩ | ⟨v, hv, rfl, v1, v2⟩
      · exact zPo_l (by rw [eR, he]; rfl) rfl hf
      · refine zPo_r (by rw [eR, hv]; rfl) rfl ⟨v1, ?_, ?_⟩
        · exact w2.one wb wq (t := 4) (Or.inr (Or.inr rfl)) (fun j h1 h2 => zPto_at f4 (by omega)) v2 (fun j => by rw [f4.2])
        · have := w4.kp (σ' := σ4) (f4.1 _ _ (by unfold zPto zPw; omega))
          simpa using this
    · -- a boy
      rw [e0] at sub ⊢
      have eR : zpPart0 B s p = zbd (zpBoy B s.1 s.2.1 p) fun r => .inr ((r.1.1, r.1.2, true, s.2.2.2), r.2) := by
        unfold zpPart0
        rw [if_neg (by omega), if_neg (by omega), if_pos e0]
      refine qV.go 30 [104, 112, 126, 134, 139] ok_251 ?_
      simp only [qW_nop, qW_iconst, qW_bipush, qW_sipush, qW_ldcs, qW_iloadn, qW_aloadn, qW_istoren, qW_iand, qW_ior, qW_ishl, qW_ishr, qW_dup, qW_ifeq, qW_icne, qW_iflt, qW_icgt, qW_icle, qW_goto, qW_tsw, qW_getf, qW_cv1_0, qW_cv1_2, qW_cv2_0, qW_cv4_0, qW_iret1, qW_putf0, Nat.reduceAdd, Nat.reduceMul, Nat.reduceBEq, Nat.reduceEqDiff, Nat.reduceLT, Nat.reduceLeDiff, Nat.zero_le, nI_add, nI_mul, nI_cl, qin_eq, qofI, qlg_0, qlg_s, qls_i0, qls_r0, qls_l0, qls_1, qls_2, qkl_i, qkl_r, qkl_l, qkl_n, qIsI_i, qIsL_l, qIsR_r, qint_i, qil_i, qil_r, qil_l, qf4_0, qf4_1, qf4_2, qf4_3, qf2_0, qf2_1, qcs_n, qcs_i, qcs_r, qcs_l, qst_n, qst_c, qJ_0, qJ_st, qJ_go, qfl_I, qfl_Z, qfl_L, qfl_R, qrI_i, qrL_l, qrV_v, qRcv_0, qRcv_s, eq_self, true_and, and_true, true_or, or_true, false_and, and_false, false_or, or_false, ite_true, if_true, if_false, Bool.true_or, Bool.false_or, Bool.or_false, beq_self_eq_true, Bool.false_eq_true, bX12_campPart_0, bX12_campPart_16, bX12_campPart_22, bX12_campPart_45, bX12_campPart_62, bX12_campPart_63, bX12_campPart_77, bX12_campPart_104, bX12_campPart_112, bX12_campPart_126, bX12_campPart_134, bX12_campPart_139, bX12_campPart_156, bX12_campPart_157, kX12_campPart_0, kX12_campPart_16, kX12_campPart_22, kX12_campPart_45, kX12_campPart_62, kX12_campPart_63, kX12_campPart_77, kX12_campPart_104, kX12_campPart_112, kX12_campPart_126, kX12_campPart_134, kX12_campPart_139, kX12_campPart_156, kX12_campPart_157, qK_139, qR_139_0, qK_140, qR_139_1, qK_141, qR_139_5, qK_142, qR_139_6, qK_143, qR_139_7, qK_144, qR_139_8, qK_145, qR_139_9, qK_146, qR_139_21, qK_147, qR_139_25, qK_148, qR_139_30, qK_149, qR_139_31, qK_150, qR_139_33, qK_151, qR_139_34, qK_152, qR_139_35, qK_153, qR_139_36, qK_154, qR_139_39, qK_155, qR_139_40, qK_156, qR_139_41, qK_157]
      rw [tp1, qshl1 (by omega)]
      simp only [nI_or]
      simp (disch := omega) only [nI_leI, nI_ltI, nI_eq, nI_cl, qin_eq, nI_add, nI_mul, qb_z, qb_t, qb_f, nI_ne0', Nat.reduceAdd, Bool.false_eq_true, if_false, if_true, true_and, and_true, Nat.reduceEqDiff, not_true_eq_false, not_false_eq_true, false_implies, true_implies, ite_true, ite_false]
      obtain ⟨q1, q2, q3, q4⟩ := sub 1 (by decide) _ rfl
      refine ⟨fun _ => ?_, fun hh => absurd (by decide) hh⟩
      rw [qsw]
      simp only [qsl, nI_t (show 2 < 2147483648 by decide)]
      refine ⟨fun hh => absurd hh (by decide), fun hh => absurd hh (by decide), fun hh => absurd hh (by decide), fun _ => ?_, trivial⟩
      rw [qJ_st _ _ _ _ _ (by rfl)]
      generalize qwi σ 139 20 (nI (tp ||| (2 ^ 2 ||| 1))) = σ3 at q1 q2 q3 q4 ⊢
      refine qV.go 30 [139] ok_251 ?_
      simp only [qW_nop, qW_iconst, qW_bipush, qW_sipush, qW_ldcs, qW_iloadn, qW_aloadn, qW_istoren, qW_iand, qW_ior, qW_ishl, qW_ishr, qW_dup, qW_ifeq, qW_icne, qW_iflt, qW_icgt, qW_icle, qW_goto, qW_tsw, qW_getf, qW_cv1_0, qW_cv1_2, qW_cv2_0, qW_cv4_0, qW_iret1, qW_putf0, Nat.reduceAdd, Nat.reduceMul, Nat.reduceBEq, Nat.reduceEqDiff, Nat.reduceLT, Nat.reduceLeDiff, Nat.zero_le, nI_add, nI_mul, nI_cl, qin_eq, qofI, qlg_0, qlg_s, qls_i0, qls_r0, qls_l0, qls_1, qls_2, qkl_i, qkl_r, qkl_l, qkl_n, qIsI_i, qIsL_l, qIsR_r, qint_i, qil_i, qil_r, qil_l, qf4_0, qf4_1, qf4_2, qf4_3, qf2_0, qf2_1, qcs_n, qcs_i, qcs_r, qcs_l, qst_n, qst_c, qJ_0, qJ_st, qJ_go, qfl_I, qfl_Z, qfl_L, qfl_R, qrI_i, qrL_l, qrV_v, qRcv_0, qRcv_s, eq_self, true_and, and_true, true_or, or_true, false_and, and_false, false_or, or_false, ite_true, if_true, if_false, Bool.true_or, Bool.false_or, Bool.or_false, beq_self_eq_true, Bool.false_eq_true, bX12_campPart_0, bX12_campPart_16, bX12_campPart_22, bX12_campPart_45, bX12_campPart_62, bX12_campPart_63, bX12_campPart_77, bX12_campPart_104, bX12_campPart_112, bX12_campPart_126, bX12_campPart_134, bX12_campPart_139, bX12_campPart_156, bX12_campPart_157, kX12_campPart_0, kX12_campPart_16, kX12_campPart_22, kX12_campPart_45, kX12_campPart_62, kX12_campPart_63, kX12_campPart_77, kX12_campPart_104, kX12_campPart_112, kX12_campPart_126, kX12_campPart_134, kX12_campPart_139, kX12_campPart_156, kX12_campPart_157, qK_139, qR_139_0, qK_140, qR_139_1, qK_141, qR_139_5, qK_142, qR_139_6, qK_143, qR_139_7, qK_144, qR_139_8, qK_145, qR_139_9, qK_146, qR_139_21, qK_147, qR_139_25, qK_148, qR_139_30, qK_149, qR_139_31, qK_150, qR_139_33, qK_151, qR_139_34, qK_152, qR_139_35, qK_153, qR_139_36, qK_154, qR_139_39, qK_155, qR_139_40, qK_156, qR_139_41, qK_157]
      refine qBI.of (m_aBoy hB hp q1 hw hN q2) (by decide) (fun r σ4 g4 => ?_)
      obtain ⟨g4, f4⟩ := g4
      refine part_139 hB hp hs ⟨?_, q3.tr (zPq_0 f4)⟩
      rcases zPo_c g4 with ⟨e, he, rfl, hf⟩ | ⟨v, hv, rfl, v1, v2⟩
      · exact zPo_l (by rw [eR, he]; rfl) rfl hf
      · refine zPo_r (by rw [eR, hv]; rfl) rfl ⟨v1, v2, ?_⟩
        have := q4.kp (σ' := σ4) (f4.1 _ _ (by unfold zPq0 zPw; omega))
        simpa using this
    · -- a quarrel
      rw [e0] at sub ⊢
      have eR : zpPart0 B s p = zbd (zpQuar B s.1 s.2.1 p) fun r => .inr ((r.1, s.2.1, s.2.2.1, s.2.2.2), r.2) := by
        unfold zpPart0
        rw [if_neg (by omega), if_neg (by omega), if_neg (by omega), if_pos e0]
      refine qV.go 30 [104, 112, 126, 134, 139] ok_251 ?_
      simp only [qW_nop, qW_iconst, qW_bipush, qW_sipush, qW_ldcs, qW_iloadn, qW_aloadn, qW_istoren, qW_iand, qW_ior, qW_ishl, qW_ishr, qW_dup, qW_ifeq, qW_icne, qW_iflt, qW_icgt, qW_icle, qW_goto, qW_tsw, qW_getf, qW_cv1_0, qW_cv1_2, qW_cv2_0, qW_cv4_0, qW_iret1, qW_putf0, Nat.reduceAdd, Nat.reduceMul, Nat.reduceBEq, Nat.reduceEqDiff, Nat.reduceLT, Nat.reduceLeDiff, Nat.zero_le, nI_add, nI_mul, nI_cl, qin_eq, qofI, qlg_0, qlg_s, qls_i0, qls_r0, qls_l0, qls_1, qls_2, qkl_i, qkl_r, qkl_l, qkl_n, qIsI_i, qIsL_l, qIsR_r, qint_i, qil_i, qil_r, qil_l, qf4_0, qf4_1, qf4_2, qf4_3, qf2_0, qf2_1, qcs_n, qcs_i, qcs_r, qcs_l, qst_n, qst_c, qJ_0, qJ_st, qJ_go, qfl_I, qfl_Z, qfl_L, qfl_R, qrI_i, qrL_l, qrV_v, qRcv_0, qRcv_s, eq_self, true_and, and_true, true_or, or_true, false_and, and_false, false_or, or_false, ite_true, if_true, if_false, Bool.true_or, Bool.false_or, Bool.or_false, beq_self_eq_true, Bool.false_eq_true, bX12_campPart_0, bX12_campPart_16, bX12_campPart_22, bX12_campPart_45, bX12_campPart_62, bX12_campPart_63, bX12_campPart_77, bX12_campPart_104, bX12_campPart_112, bX12_campPart_126, bX12_campPart_134, bX12_campPart_139, bX12_campPart_156, bX12_campPart_157, kX12_campPart_0, kX12_campPart_16, kX12_campPart_22, kX12_campPart_45, kX12_campPart_62, kX12_campPart_63, kX12_campPart_77, kX12_campPart_104, kX12_campPart_112, kX12_campPart_126, kX12_campPart_134, kX12_campPart_139, kX12_campPart_156, kX12_campPart_157, qK_139, qR_139_0, qK_140, qR_139_1, qK_141, qR_139_5, qK_142, qR_139_6, qK_143, qR_139_7, qK_144, qR_139_8, qK_145, qR_139_9, qK_146, qR_139_21, qK_147, qR_139_25, qK_148, qR_139_30, qK_149, qR_139_31, qK_150, qR_139_33, qK_151, qR_139_34, qK_152, qR_139_35, qK_153, qR_139_36, qK_154, qR_139_39, qK_155, qR_139_40, qK_156, qR_139_41, qK_157]
      rw [tp1, qshl1 (by omega)]
      simp only [nI_or]
      simp (disch := omega) only [nI_leI, nI_ltI, nI_eq, nI_cl, qin_eq, nI_add, nI_mul, qb_z, qb_t, qb_f, nI_ne0', Nat.reduceAdd, Bool.false_eq_true, if_false, if_true, true_and, and_true, Nat.reduceEqDiff, not_true_eq_false, not_false_eq_true, false_implies, true_implies, ite_true, ite_false]
      obtain ⟨q1, q2, q3, q4⟩ := sub 0 (by decide) _ rfl
      refine ⟨fun _ => ?_, fun hh => absurd (by decide) hh⟩
      rw [qsw]
      simp only [qsl, nI_t (show 3 < 2147483648 by decide)]
      refine ⟨fun _ => ?_, fun hh => absurd hh (by decide), fun hh => absurd hh (by decide), fun hh => absurd hh (by decide), trivial⟩
      rw [qJ_st _ _ _ _ _ (by rfl)]
      generalize qwi σ 139 20 (nI (tp ||| (2 ^ 3 ||| 0))) = σ3 at q1 q2 q3 q4 ⊢
      refine qV.go 30 [139] ok_251 ?_
      simp only [qW_nop, qW_iconst, qW_bipush, qW_sipush, qW_ldcs, qW_iloadn, qW_aloadn, qW_istoren, qW_iand, qW_ior, qW_ishl, qW_ishr, qW_dup, qW_ifeq, qW_icne, qW_iflt, qW_icgt, qW_icle, qW_goto, qW_tsw, qW_getf, qW_cv1_0, qW_cv1_2, qW_cv2_0, qW_cv4_0, qW_iret1, qW_putf0, Nat.reduceAdd, Nat.reduceMul, Nat.reduceBEq, Nat.reduceEqDiff, Nat.reduceLT, Nat.reduceLeDiff, Nat.zero_le, nI_add, nI_mul, nI_cl, qin_eq, qofI, qlg_0, qlg_s, qls_i0, qls_r0, qls_l0, qls_1, qls_2, qkl_i, qkl_r, qkl_l, qkl_n, qIsI_i, qIsL_l, qIsR_r, qint_i, qil_i, qil_r, qil_l, qf4_0, qf4_1, qf4_2, qf4_3, qf2_0, qf2_1, qcs_n, qcs_i, qcs_r, qcs_l, qst_n, qst_c, qJ_0, qJ_st, qJ_go, qfl_I, qfl_Z, qfl_L, qfl_R, qrI_i, qrL_l, qrV_v, qRcv_0, qRcv_s, eq_self, true_and, and_true, true_or, or_true, false_and, and_false, false_or, or_false, ite_true, if_true, if_false, Bool.true_or, Bool.false_or, Bool.or_false, beq_self_eq_true, Bool.false_eq_true, bX12_campPart_0, bX12_campPart_16, bX12_campPart_22, bX12_campPart_45, bX12_campPart_62, bX12_campPart_63, bX12_campPart_77, bX12_campPart_104, bX12_campPart_112, bX12_campPart_126, bX12_campPart_134, bX12_campPart_139, bX12_campPart_156, bX12_campPart_157, kX12_campPart_0, kX12_campPart_16, kX12_campPart_22, kX12_campPart_45, kX12_campPart_62, kX12_campPart_63, kX12_campPart_77, kX12_campPart_104, kX12_campPart_112, kX12_campPart_126, kX12_campPart_134, kX12_campPart_139, kX12_campPart_156, kX12_campPart_157, qK_139, qR_139_0, qK_140, qR_139_1, qK_141, qR_139_5, qK_142, qR_139_6, qK_143, qR_139_7, qK_144, qR_139_8, qK_145, qR_139_9, qK_146, qR_139_21, qK_147, qR_139_25, qK_148, qR_139_30, qK_149, qR_139_31, qK_150, qR_139_33, qK_151, qR_139_34, qK_152, qR_139_35, qK_153, qR_139_36, qK_154, qR_139_39, qK_155, qR_139_40, qK_156, qR_139_41, qK_157]
      refine qBI.of (m_aQuarrel hB hp q1 hw hN q2) (by decide) (fun r σ4 g4 => ?_)
      obtain ⟨g4, f4⟩ := g4
      refine part_139 hB hp hs ⟨?_, q3.tr (zPq_0 f4)⟩
      rcases zPo_c g4 with ⟨e, he, rfl, hf⟩ | ⟨v, hv, rfl, v1, v2⟩
      · exact zPo_l (by rw [eR, he]; rfl) rfl hf
      · refine zPo_r (by rw [eR, hv]; rfl) rfl ⟨v1, v2, ?_⟩
        have := q4.kp (σ' := σ4) (f4.1 _ _ (by unfold zPq0 zPw; omega))
        simpa using this
  have f5b : (tkY B p = 0 ∧ s.2.2.1 = true) ∨ (tkY B p = 1 ∧ s.2.2.2 = true) → qBI 9 234 [qr 139, qi (nI 5)] σ (fun r σ' => (r = nI 0 ∨ r = nI 1) ∧ zPfin B n (zpPart B s p) σ r σ') := fun h3 => by
    refine qBI.of (m_fails h) (by decide) (fun r σ2 g3 => ?_)
    obtain ⟨rfl, g4, g5⟩ := g3
    refine ⟨Or.inl rfl, zPo_l (e := zno B p 5) ?_ rfl g4, zPw_q g5⟩
    unfold zpPart zpPart0
    rcases h3 with ⟨h3, h4⟩ | ⟨h3, h4⟩
    · rw [if_pos h3, if_pos h4]; rfl
    · rw [if_neg (by omega), if_pos h3, if_pos h4]; rfl
  refine ⟨fun g => go (by omega) (by omega), fun g => ⟨fun g2 => ?_, fun g2 => ?_⟩⟩
  · refine go (fun hh => g2 ?_) (fun hh => g2 ?_)
    · rw [hh.1, tp3, hh.2]; rfl
    · rw [hh.1, tp4, hh.2]; rfl
  · refine f5b ?_
    have hbit : tp.testBit (tkY B p) = true := by
      cases hb : tp.testBit (tkY B p) with
      | true => rfl
      | false =>
        rw [hb] at g2
        exact absurd g2 (by decide)
    rcases (show tkY B p = 0 ∨ tkY B p = 1 by omega) with e0 | e0
    · exact Or.inl ⟨e0, by rw [← tp3, ← e0]; exact hbit⟩
    · exact Or.inr ⟨e0, by rw [← tp4, ← e0]; exact hbit⟩
