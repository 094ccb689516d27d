/-! the reference: means -/
theorem zgo_W {W : Nat → Nat → Nat} {n : Nat} : ∀ f s, zLW W n s → zLW W n (zgo W n f s)
  | 0, _, h => h
  | f + 1, s, h => by
    rw [zgo]
    split
    · exact h
    · exact zgo_W f _ (zLW_move h)
theorem zfin_W {W : Nat → Nat → Nat} {n : Nat} {s : zL} (h : zLW W n s) : zLW W n (zfin W n s) := zgo_W _ _ h
/-- the sum of the open ones behind i lives, and the rounds that are left -/
def zmean (W : Nat → Nat → Nat) (n : Nat) (C : zC) (L : Nat → Nat) (seed : Nat) : Nat → Nat × (Nat → Nat)
  | 0 => (0, L)
  | i + 1 => ((zmean W n C L seed i).1 + zpop (zopens (zfin W n (zst0 C (zmean W n C L seed i).2 (seed + i))).1), (zfin W n (zst0 C (zmean W n C L seed i).2 (seed + i))).2.1)
def zPe (a j : Nat) : Prop := (a = 140 ∧ ((j < 88 ∧ j ≠ 6) ∨ (2280 ≤ j ∧ j < 2368))) ∨ (a = 139 ∧ (j = 24 ∨ j = 37 ∨ j = 38)) ∨ a = 156 ∨ a = 155
set_option maxRecDepth 20000 in
theorem mean_go {σ : qSg} {W : Nat → Nat → Nat} {n : Nat} {C : zC} {L : Nat → Nat} {seed many : Nat} (h : zM σ 0 C) (hM : zMW σ W n) (hw : zW C) (hW : zWW W n (C 0 0) (C 0 2 * C 0 3)) (h5 : C 0 5 ≤ 9999) (hL : ∀ j, L j ≤ 99) (hLo : zLo σ L) (hm : many ≤ 20) (hm1 : 1 ≤ many) (hs : seed + many ≤ 10000) :
    qV 364 11 (.inl fun r σ' => ∃ σ1, r = nI 1 ∧ σ' = ztell σ1 (zmean W n C L seed many).1 many ∧ zM σ1 0 C ∧ zLo σ1 (zmean W n C L seed many).2 ∧ zF zPe σ σ1) 59 [some (qr 139), some (qi (nI seed)), some (qi (nI many)), none, none, none] [] σ := by
  have hL2 : ∀ i, i ≤ many → (∀ j, (zmean W n C L seed i).2 j ≤ 99) ∧ (zmean W n C L seed i).1 ≤ 10 * i := by
    intro i
    induction i with
    | zero => exact fun _ => ⟨hL, Nat.le_refl _⟩
    | succ i ih =>
      intro hi
      obtain ⟨i1, i2⟩ := ih (by omega)
      have hf := zfin_W (zst0_W (seed := seed + i) hw hW h5 i1 (by omega))
      have hl := zopens_lt hf.1
      have hp : zpop (zopens (zfin W n (zst0 C (zmean W n C L seed i).2 (seed + i))).1) ≤ 10 := zpop_le (k := 10) (by omega)
      refine ⟨hf.2.2.2.2.2.2.2.2.2.2.1, ?_⟩
      show (zmean W n C L seed i).1 + zpop _ ≤ _
      omega
  refine qV.go 30 [71] ok_364 ?_
  simp only [qW_nop, qW_iconst, qW_iconstm, qW_bipush, qW_sipush, qW_ldc2, qW_lconst, qW_iloadn, qW_iload, qW_lloadn, qW_aloadn, qW_istore, qW_lstoren, qW_iinc, qW_iadd, qW_isub, qW_ladd, qW_i2l, qW_ifeq, qW_icne, qW_icge, qW_icle, qW_goto, qW_getf, qW_iald, qW_cs1_0, qW_cs3_0, qW_cv1_0, qW_cv2_0, qW_cv2_2, qW_cv3_0, qW_iret1, Nat.reduceAdd, Nat.reduceMul, Nat.reduceBEq, Nat.reduceEqDiff, Nat.reduceLT, Nat.reduceLeDiff, Nat.zero_le, nI_add, nI_mul, nI_cl, qin_eq, qofI, qlg_0, qlg_s, qls_i0, qls_r0, qls_l0, qls_1, qls_2, qkl_i, qkl_r, qkl_l, qkl_n, qIsI_i, qIsL_l, qIsR_r, qint_i, qil_i, qil_r, qil_l, qf4_0, qf4_1, qf4_2, qf4_3, qf2_0, qf2_1, qcs_n, qcs_i, qcs_r, qcs_l, qst_n, qst_c, qJ_0, qJ_st, qJ_go, qfl_I, qfl_Z, qfl_L, qfl_R, qrI_i, qrL_l, qrV_v, qRcv_0, qRcv_s, eq_self, true_and, and_true, true_or, or_true, false_and, and_false, false_or, or_false, ite_true, if_true, if_false, Bool.true_or, Bool.false_or, Bool.or_false, beq_self_eq_true, Bool.false_eq_true, bX12_mean_0, bX12_mean_35, bX12_mean_41, bX12_mean_59, bX12_mean_71, bX12_mean_109, kX12_mean_0, kX12_mean_35, kX12_mean_41, kX12_mean_59, kX12_mean_71, kX12_mean_109, qK_139, qR_139_0, qK_140, qR_139_1, qK_141, qR_139_5, qK_142, qR_139_6, qK_143, qR_139_7, qK_144, qR_139_8, qK_145, qR_139_9, qK_146, qR_139_21, qK_147, qR_139_25, qK_148, qR_139_30, qK_149, qR_139_31, qK_150, qR_139_33, qK_151, qR_139_34, qK_152, qR_139_35, qK_153, qR_139_36, qK_154, qR_139_39, qK_155, qR_139_40, qK_156, qR_139_41, qK_157]
  refine qBV.of (m_keeps σ (t := 2280) (by decide) (by decide)) (by decide) (fun σ0 h0 => ?_)
  subst h0
  have a0 : zM (zmv σ 140 0 2280 88) 2280 C := zM_mv h hw
  have a1 : zM (zmv σ 140 0 2280 88) 0 C := zkeep_M h hw (by decide)
  have a2 : zF zPe σ (zmv σ 140 0 2280 88) := zF_mv fun j h1 h2 => Or.inl ⟨rfl, by omega⟩
  have a3 : zMW (zmv σ 140 0 2280 88) W n := ⟨by rw [a2.1 _ _ (by unfold zPe; omega)]; exact hM.1, fun k hk i hi => by have := hW.1; rw [a2.1 _ _ (by unfold zPe; omega)]; exact hM.2 k hk i hi⟩
  have a4 : (zmv σ 140 0 2280 88).1 140 2286 = nI n := by
    rw [← hM.1]
    simp only [zmv]
    rw [if_pos (by decide)]
  have a5 : zLo (zmv σ 140 0 2280 88) L := fun j hj => by
    rw [← hLo j hj]
    simp only [zmv]
    rw [if_neg (by omega)]
  generalize zmv σ 140 0 2280 88 = σ0 at a0 a1 a2 a3 a4 a5 ⊢
  refine qdown (n := many) (P := fun i => ∀ σ1, zF zPe σ σ1 → zM σ1 0 C → zM σ1 2280 C → zMW σ1 W n → σ1.1 140 2286 = nI n → zLo σ1 (zmean W n C L seed i).2 → qV 364 11 (.inl fun r σ' => ∃ σ1, r = nI 1 ∧ σ' = ztell σ1 (zmean W n C L seed many).1 many ∧ zM σ1 0 C ∧ zLo σ1 (zmean W n C L seed many).2 ∧ zF zPe σ σ1) 71 [some (qr 139), some (qi (nI seed)), some (qi (nI many)), some (ql (lN (zmean W n C L seed i).1)), none, some (qi (nI i))] [] σ1) (fun i hi ih => ?_) 0 (Nat.zero_le _) σ0 a2 a1 a0 a3 a4 a5
  intro σ1 f1 b1 b0 b3 b4 b5
  obtain ⟨j1, j2⟩ := hL2 i hi
  refine qV.go 30 [71] ok_364 ?_
  simp only [qW_nop, qW_iconst, qW_iconstm, qW_bipush, qW_sipush, qW_ldc2, qW_lconst, qW_iloadn, qW_iload, qW_lloadn, qW_aloadn, qW_istore, qW_lstoren, qW_iinc, qW_iadd, qW_isub, qW_ladd, qW_i2l, qW_ifeq, qW_icne, qW_icge, qW_icle, qW_goto, qW_getf, qW_iald, qW_cs1_0, qW_cs3_0, qW_cv1_0, qW_cv2_0, qW_cv2_2, qW_cv3_0, qW_iret1, Nat.reduceAdd, Nat.reduceMul, Nat.reduceBEq, Nat.reduceEqDiff, Nat.reduceLT, Nat.reduceLeDiff, Nat.zero_le, nI_add, nI_mul, nI_cl, qin_eq, qofI, qlg_0, qlg_s, qls_i0, qls_r0, qls_l0, qls_1, qls_2, qkl_i, qkl_r, qkl_l, qkl_n, qIsI_i, qIsL_l, qIsR_r, qint_i, qil_i, qil_r, qil_l, qf4_0, qf4_1, qf4_2, qf4_3, qf2_0, qf2_1, qcs_n, qcs_i, qcs_r, qcs_l, qst_n, qst_c, qJ_0, qJ_st, qJ_go, qfl_I, qfl_Z, qfl_L, qfl_R, qrI_i, qrL_l, qrV_v, qRcv_0, qRcv_s, eq_self, true_and, and_true, true_or, or_true, false_and, and_false, false_or, or_false, ite_true, if_true, if_false, Bool.true_or, Bool.false_or, Bool.or_false, beq_self_eq_true, Bool.false_eq_true, bX12_mean_0, bX12_mean_35, bX12_mean_41, bX12_mean_59, bX12_mean_71, bX12_mean_109, kX12_mean_0, kX12_mean_35, kX12_mean_41, kX12_mean_59, kX12_mean_71, kX12_mean_109, qK_139, qR_139_0, qK_140, qR_139_1, qK_141, qR_139_5, qK_142, qR_139_6, qK_143, qR_139_7, qK_144, qR_139_8, qK_145, qR_139_9, qK_146, qR_139_21, qK_147, qR_139_25, qK_148, qR_139_30, qK_149, qR_139_31, qK_150, qR_139_33, qK_151, qR_139_34, qK_152, qR_139_35, qK_153, qR_139_36, qK_154, qR_139_39, qK_155, qR_139_40, qK_156, qR_139_41, qK_157]
  simp (disch := omega) only [nI_leI, nI_ltI, nI_eq, nI_cl, qin_eq, nI_add, nI_mul, qb_z, qb_t, qb_f, nI_ne0', Nat.reduceAdd, Bool.false_eq_true, if_false, if_true, true_and, and_true, Nat.reduceEqDiff, not_true_eq_false, not_false_eq_true, false_implies, true_implies, ite_true, ite_false]
  refine ⟨fun hk => ?_, fun hk => ?_⟩
  · obtain rfl : i = many := by omega
    rw [nI_l (by omega)]
    refine qBI.of (m_tellsBy σ1 (by omega) (by omega) (by omega)) (by decide) (fun r σ2 h2 => ?_)
    obtain ⟨rfl, rfl⟩ := h2
    exact ⟨Or.inr rfl, σ1, rfl, rfl, b1, b5, f1⟩
  · have hst := zst0_W (seed := seed + i) hw hW h5 j1 (by omega)
    refine qBV.of (m_lives b1 b3 hw hW h5 j1 b5 (by omega)) (by decide) (fun σ2 h2 => ?_)
    obtain ⟨c1, f2⟩ := h2
    have hf := zfin_W hst
    have hl := zopens_lt hf.1
    have hp : zpop (zopens (zfin W n (zst0 C (zmean W n C L seed i).2 (seed + i))).1) ≤ 10 := zpop_le (k := 10) (by omega)
    refine qBI.fn (m_openOnes c1.1 hf.1) (by decide) (qBI.fn (m_bits σ2 (by omega)) (by decide) (qBV.of (m_restores σ2 (t := 2280) (by decide) (by decide)) (by decide) (fun σ3 h3 => ?_)))
    subst h3
    have d0 : zM σ2 2280 C := b0.keep hw fun j hj => f2.1 _ _ (by unfold zPl; omega)
    have d4 : σ2.1 140 2286 = nI n := by rw [f2.1 _ _ (by unfold zPl; omega), b4]
    have d3 := c1.2.1
    have g3 : zMW (zmv σ2 140 2280 0 88) W n := by
      refine ⟨?_, fun k hk j hj => ?_⟩
      · simp only [zmv]
        rw [if_pos (by decide)]
        exact d4
      · simp only [zmv]
        rw [if_neg (by omega)]
        exact d3.2 k hk j hj
    rw [nI_l (by omega), lN_add]
    refine ih (by omega) (zmv σ2 140 2280 0 88) ⟨fun a j hp => ?_, f2.2.trans f1.2⟩ (zM_mv d0 hw) (d0.keep hw fun j hj => ?_) g3 ?_ (fun j hj => ?_)
    · by_cases e : a = 140 ∧ j = 6
      · obtain ⟨rfl, rfl⟩ := e
        rw [g3.1, hM.1]
      · simp only [zmv]
        rw [if_neg (by unfold zPe at hp; omega), f2.1 _ _ (by unfold zPe at hp; unfold zPl; omega), f1.1 _ _ hp]
    · simp only [zmv]
      rw [if_neg (by omega)]
    · simp only [zmv]
      rw [if_neg (by omega)]
      exact d4
    · simp only [zmv]
      rw [if_neg (by omega)]
      exact c1.2.2.1 j hj
