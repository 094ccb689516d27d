/-! the reference: games -/
set_option maxRecDepth 20000 in
theorem m_levelAt (σ : qSg) {l : Nat} (hl : l < 4) : qFI 1 299 [qi (nI l)] σ (nI (2736 + 88 * l)) := by
  refine qCI.of [some (qi (nI l))] ok_299 (Nat.le_of_ble_eq_true rfl) rfl ?_
  refine qV.go 30 [9999] ok_299 ?_
  simp only [qW_nop, qW_bipush, qW_sipush, qW_iloadn, qW_iadd, qW_imul, qW_iret0, Nat.reduceAdd, Nat.reduceMul, Nat.reduceBEq, Nat.reduceEqDiff, Nat.reduceLT, Nat.reduceLeDiff, Nat.zero_le, nI_add, nI_mul, nI_cl, qin_eq, qofI, qlg_0, qlg_s, qls_i0, qls_r0, qls_l0, qls_1, qls_2, qkl_i, qkl_r, qkl_l, qkl_n, qIsI_i, qIsL_l, qIsR_r, qint_i, qil_i, qil_r, qil_l, qf4_0, qf4_1, qf4_2, qf4_3, qf2_0, qf2_1, qcs_n, qcs_i, qcs_r, qcs_l, qst_n, qst_c, qJ_0, qJ_st, qJ_go, qfl_I, qfl_Z, qfl_L, qfl_R, qrI_i, qrL_l, qrV_v, qRcv_0, qRcv_s, eq_self, true_and, and_true, true_or, or_true, false_and, and_false, false_or, or_false, ite_true, if_true, if_false, Bool.true_or, Bool.false_or, Bool.or_false, beq_self_eq_true, Bool.false_eq_true, bX12_levelAt_0, kX12_levelAt_0]
/-- what a game at level l may change -/
def zPg (l a j : Nat) : Prop := (a = 140 ∧ (j < 88 ∨ (2280 ≤ j ∧ j < 2368) ∨ (2824 + 88 * l ≤ j ∧ j < 3000))) ∨ (a = 139 ∧ j = 24) ∨ ((a = 151 ∨ a = 152 ∨ a = 153) ∧ l ≤ j)
theorem zM.to {σ σ' : qSg} {s t : Nat} {C : zC} (h : zM σ s C) (hw : zW C) (hk : ∀ j, j < 88 → σ'.1 140 (t + j) = σ.1 140 (s + j)) : zM σ' t C := by
  obtain ⟨wb, wq, ww1, ww2, wh1, wh2, wo, wm, wB, wQ⟩ := id hw
  refine ⟨fun j hj => ?_, fun b hb f hf => ?_, fun q hq f hf => ?_⟩
  · rw [hk j (by omega)]; exact h.1 j hj
  · rw [hk _ (by omega)]; exact h.2.1 b hb f hf
  · rw [hk _ (by omega)]; exact h.2.2 q hq f hf
theorem zM_mv {σ : qSg} {C : zC} {s t : Nat} (h : zM σ s C) (hw : zW C) : zM (zmv σ 140 s t 88) t C := by
  refine h.to hw fun j hj => ?_
  simp only [zmv, true_and]
  rw [if_pos (by omega), show s + (t + j - t) = s + j by omega]
theorem zF_mv {σ : qSg} {s t : Nat} {P : Nat → Nat → Prop} (hP : ∀ j, t ≤ j → j < t + 88 → P 140 j) : zF P σ (zmv σ 140 s t 88) := by
  refine ⟨fun a j hp => ?_, rfl⟩
  simp only [zmv]
  rw [if_neg]
  rintro ⟨rfl, h1, h2⟩
  exact hp (hP j h1 h2)
theorem zfold_some {V : Nat → Nat} {ok : Nat → Bool} {l q : Nat} (h : ok q = true) : ∃ s, zfold V ok l (q + 1) = some s := by
  simp only [zfold]
  rw [if_pos h]
  cases zfold V ok l q with
  | none => exact ⟨_, rfl⟩
  | some s =>
    simp only [zst]
    split
    · exact ⟨_, rfl⟩
    · exact ⟨_, rfl⟩
theorem zAcc_f {σ σ' : qSg} {l : Nat} {a : Option (Nat × Nat)} (h : zAcc σ l a) (hk : ∀ b j, (b = 152 ∨ b = 153) ∧ j = l → σ'.1 b j = σ.1 b j) : zAcc σ' l a := by
  cases a with
  | none =>
    have h : σ.1 153 l = iI (-1) := h
    show σ'.1 153 l = iI (-1)
    rw [hk _ _ ⟨Or.inr rfl, rfl⟩, h]
  | some s =>
    obtain ⟨h1, h2⟩ := h
    refine ⟨?_, ?_⟩
    · rw [hk _ _ ⟨Or.inr rfl, rfl⟩, h1]
    · rw [hk _ _ ⟨Or.inl rfl, rfl⟩, h2]
set_option maxRecDepth 20000 in
theorem playing_run (Q : qQ) {turns l : Nat} (ht : turns ≤ 3) (hl : l < turns) {C : zC} (hw : zW C) {V : Nat → Nat} (σ : qSg)
    (K : ∀ σ', zF (zPg l) σ σ' → zM σ' (2736 + 88 * l) C → zAcc σ' l (zfold V (zdok C) l (C 0 1 + 1)) → qV 347 9 Q (if l = 0 then 166 else 73) [some (qr 139), some (qi (nI turns)), some (qi (nI l))] [] σ')
    (D : ∀ q σ1, q ≤ C 0 1 → zF (zPg l) σ σ1 → zM σ1 0 (zdeed C l q) → zM σ1 (2736 + 88 * l) C → σ1.1 151 l = nI q → zAcc σ1 l (zfold V (zdok C) l q) →
      (∀ σ2, zF (zPg l) σ σ2 → zM σ2 (2736 + 88 * l) C → σ2.1 151 l = nI q → zAcc σ2 l (zst l (V q) q (zfold V (zdok C) l q)) → qV 347 9 Q 33 [some (qr 139), some (qi (nI turns)), some (qi (nI l))] [] σ2) →
      qV 347 9 Q 119 [some (qr 139), some (qi (nI turns)), some (qi (nI l))] [] σ1) :
    ∀ q, q ≤ C 0 1 + 1 → ∀ σ1, zF (zPg l) σ σ1 → zM σ1 (2736 + 88 * l) C → σ1.1 151 l + nI 1 = nI q → zAcc σ1 l (zfold V (zdok C) l q) →
    qV 347 9 Q 33 [some (qr 139), some (qi (nI turns)), some (qi (nI l))] [] σ1 := by
  intro q hq0
  refine qdown (n := C 0 1 + 1) (P := fun q => ∀ σ1, zF (zPg l) σ σ1 → zM σ1 (2736 + 88 * l) C → σ1.1 151 l + nI 1 = nI q → zAcc σ1 l (zfold V (zdok C) l q) →
    qV 347 9 Q 33 [some (qr 139), some (qi (nI turns)), some (qi (nI l))] [] σ1) (fun q hq ih => ?_) q hq0
  intro σ1 f1 a1 hd ha
  refine qV.go 30 [33, 73, 119, 166] ok_347 ?_
  simp only [qW_nop, qW_iconst, qW_iconstm, qW_iloadn, qW_aloadn, qW_istoren, qW_iinc, qW_iincm, qW_iadd, qW_irem, qW_dup2, qW_ifne, qW_icne, qW_icle, qW_goto, qW_getf, qW_iald, qW_iast, qW_cs1_0, qW_cv1_0, qW_cv2_2, qW_cv3_0, qW_cv3_2, qW_iret0, Nat.reduceAdd, Nat.reduceMul, Nat.reduceBEq, Nat.reduceEqDiff, Nat.reduceLT, Nat.reduceLeDiff, Nat.zero_le, nI_add, nI_mul, nI_cl, qin_eq, qofI, qlg_0, qlg_s, qls_i0, qls_r0, qls_l0, qls_1, qls_2, qkl_i, qkl_r, qkl_l, qkl_n, qIsI_i, qIsL_l, qIsR_r, qint_i, qil_i, qil_r, qil_l, qf4_0, qf4_1, qf4_2, qf4_3, qf2_0, qf2_1, qcs_n, qcs_i, qcs_r, qcs_l, qst_n, qst_c, qJ_0, qJ_st, qJ_go, qfl_I, qfl_Z, qfl_L, qfl_R, qrI_i, qrL_l, qrV_v, qRcv_0, qRcv_s, eq_self, true_and, and_true, true_or, or_true, false_and, and_false, false_or, or_false, ite_true, if_true, if_false, Bool.true_or, Bool.false_or, Bool.or_false, beq_self_eq_true, Bool.false_eq_true, bX12_playing_0, bX12_playing_9, bX12_playing_33, bX12_playing_73, bX12_playing_92, bX12_playing_109, bX12_playing_110, bX12_playing_119, bX12_playing_138, bX12_playing_166, kX12_playing_0, kX12_playing_9, kX12_playing_33, kX12_playing_73, kX12_playing_92, kX12_playing_109, kX12_playing_110, kX12_playing_119, kX12_playing_138, kX12_playing_166, qK_139, qR_139_0, qK_140, qR_139_1, qK_141, qR_139_5, qK_142, qR_139_6, qK_143, qR_139_7, qK_144, qR_139_8, qK_145, qR_139_9, qK_146, qR_139_21, qK_147, qR_139_25, qK_148, qR_139_30, qK_149, qR_139_31, qK_150, qR_139_33, qK_151, qR_139_34, qK_152, qR_139_35, qK_153, qR_139_36, qK_154, qR_139_39, qK_155, qR_139_40, qK_156, qR_139_41, qK_157]
  refine qBI.fn (m_levelAt σ1 (by omega)) (by decide) (qBV.of (m_restores σ1 (by omega) (by omega)) (by decide) (fun σ2 h2 => ?_))
  subst h2
  have b0 : zM (zmv σ1 140 (2736 + 88 * l) 0 88) 0 C := zM_mv a1 hw
  have b1 : zM (zmv σ1 140 (2736 + 88 * l) 0 88) (2736 + 88 * l) C := a1.keep hw fun j hj => by
    simp only [zmv]
    exact if_neg (by omega)
  have f2 : zF (zPg l) σ (zmv σ1 140 (2736 + 88 * l) 0 88) := f1.tr (zF_mv fun j h1 h2 => Or.inl ⟨rfl, by omega⟩)
  have b2 : (zmv σ1 140 (2736 + 88 * l) 0 88).1 151 l + nI 1 = nI q := by
    rw [← hd]
    simp only [zmv]
    rw [if_neg (fun h => absurd h.1 (by decide))]
  have b3 : zAcc (zmv σ1 140 (2736 + 88 * l) 0 88) l (zfold V (zdok C) l q) := zAcc_f ha (fun a j h1 => by
    simp only [zmv]
    rw [if_neg (by omega)])
  generalize zmv σ1 140 (2736 + 88 * l) 0 88 = σ2 at b0 b1 f2 b2 b3 ⊢
  simp only [nI_c (show l < 2147483648 by omega)]
  rw [b2]
  have c0 : zM (qwi σ2 151 l (nI q)) 0 C := zM_wi b0 (by omega) hw
  have c1 : zM (qwi σ2 151 l (nI q)) (2736 + 88 * l) C := b1.keep hw fun j hj => by rw [qwi_1, if_neg (by omega)]
  have c2 : (qwi σ2 151 l (nI q)).1 151 l = nI q := by rw [qwi_1, if_pos ⟨rfl, rfl⟩]
  have c3 : zAcc (qwi σ2 151 l (nI q)) l (zfold V (zdok C) l q) := zAcc_f b3 (fun a j h1 => by
    rw [qwi_1, if_neg (by omega)])
  have f3 : zF (zPg l) σ (qwi σ2 151 l (nI q)) := f2.tr (zF.wi (Or.inr (Or.inr ⟨Or.inl rfl, Nat.le_refl _⟩)))
  generalize qwi σ2 151 l (nI q) = σ3 at c0 c1 c2 c3 f3 ⊢
  rw [c2, zM_s c0 1 (by decide)]
  have hq10 := hw.2.1
  rw [nI_rem (by omega) (by decide) (by decide)]
  have down : ∀ (e : Bool), e = decide (l % 2 = 0) → q ≤ C 0 1 → qBI 9 346 [qr 139, qi (nI q), qi (qb e)] σ3 fun r σ1 =>
            (¬r = 0 → qV 347 9 Q 119 [some (qr 139), some (qi (nI turns)), some (qi (nI l))] [] σ1) ∧
              (r = 0 → qV 347 9 Q 33 [some (qr 139), some (qi (nI turns)), some (qi (nI l))] [] σ1) := by
    intro e he h1
    refine qBI.of (m_doesDeed c0 hw h1 he) (by decide) (fun r σ4 h4 => ?_)
    obtain ⟨rfl, h5, f4⟩ := h4
    have d1 : zM σ4 (2736 + 88 * l) C := c1.keep hw fun j hj => f4.1 _ _ (by unfold zPc; omega)
    have d2 : σ4.1 151 l = nI q := by rw [f4.1 _ _ (fun h => absurd h.1 (by decide)), c2]
    have d3 := zAcc_f c3 (fun a j h1 => f4.1 a j (by unfold zPc; omega))
    have d4 : zF (zPg l) σ σ4 := f3.tr (f4.wk fun a j h1 => Or.inl ⟨h1.1, Or.inl h1.2.1⟩)
    have nx : ∀ σ5 : qSg, σ5.1 151 l = nI q → σ5.1 151 l + nI 1 = nI (q + 1) := fun σ5 h => by rw [h, nI_add]
    cases ek : zdok C q with
    | false =>
      have e1 : zfold V (zdok C) l (q + 1) = zfold V (zdok C) l q := by
        rw [zfold, if_neg (by simp [ek])]
      refine ⟨fun h2 => absurd nI_0 h2, fun _ => ih (by omega) σ4 d4 d1 (nx σ4 d2) (by rw [e1]; exact d3)⟩
    | true =>
      have e1 : zfold V (zdok C) l (q + 1) = zst l (V q) q (zfold V (zdok C) l q) := by
        rw [zfold, if_pos ek]
      refine ⟨fun _ => D q σ4 h1 d4 (h5 ek) d1 d2 d3 fun σ5 g1 g2 g3 g4 => ih (by omega) σ5 g1 g2 (nx σ5 g3) (by rw [e1]; exact g4), fun h2 => absurd h2 (by decide)⟩
  simp (disch := omega) only [nI_leI, nI_ltI, nI_eq, nI_cl, qin_eq, nI_add, nI_mul, qb_z, qb_t, qb_f, nI_ne0', Nat.reduceAdd, Bool.false_eq_true, if_false, if_true, true_and, and_true, Nat.reduceEqDiff, not_true_eq_false, not_false_eq_true, false_implies, true_implies, ite_true, ite_false]
  refine ⟨fun h1 => ⟨fun h2 => down false (by simp [h2]) h1, fun h2 => down true (by simp [h2]) h1⟩, fun h1 => ?_⟩
  have e : q = C 0 1 + 1 := by omega
  have k1 := K σ3 f3 c1 (e ▸ c3)
  refine ⟨fun h2 => ?_, fun h2 => ?_⟩
  · rwa [if_neg h2] at k1
  · rwa [if_pos h2] at k1
set_option maxRecDepth 20000 in
theorem playing_lvl (Q : qQ) {turns : Nat} (ht : turns ≤ 3) : ∀ f l, l + (f + 1) = turns → ∀ {C : zC}, zW C → C 0 5 ≤ 99000 → ∀ (σ : qSg),
    (∀ σ', zF (zPg l) σ σ' → zM σ' (2736 + 88 * l) C → zAcc σ' l (zmove f l C) → qV 347 9 Q (if l = 0 then 166 else 73) [some (qr 139), some (qi (nI turns)), some (qi (nI l))] [] σ') →
    ∀ σ1, zF (zPg l) σ σ1 → zM σ1 (2736 + 88 * l) C → σ1.1 151 l + nI 1 = nI 0 → σ1.1 153 l = iI (-1) →
    qV 347 9 Q 33 [some (qr 139), some (qi (nI turns)), some (qi (nI l))] [] σ1 := by
  intro f
  induction f with
  | zero =>
    intro l hl C hw hm σ K σ1 f1 a1 hd ha
    refine playing_run Q ht (by omega) hw (V := fun q => zplay 0 (l + 1) (zdeed C l q)) σ K (fun q σ2 hq f2 b1 b2 b3 b4 go => ?_) 0 (Nat.zero_le _) σ1 f1 a1 hd ha
    have hwd := zdeed_W (l := l) hw hq
    have hmd : zdeed C l q 0 5 ≤ 99000 := by rw [zdeed_q _ _ _ _ _ (by decide) (by decide)]; exact hm
    have hb := fun s hs => zfold_bd (M := 130) (ok := zdok C) (l := l) (V := fun q => zplay 0 (l + 1) (zdeed C l q)) q (fun i hi => zplay_bd 0 (l + 1) (zdeed_W (l := l) hw (by omega)) (by rw [zdeed_q _ _ _ _ _ (by decide) (by decide)]; exact hm)) s hs
    have hv := zbrk_le hwd hmd
    have hq10 := hw.2.1
    refine qV.go 30 [33, 138] ok_347 ?_
    simp only [qW_nop, qW_iconst, qW_iconstm, qW_iloadn, qW_aloadn, qW_istoren, qW_iinc, qW_iincm, qW_iadd, qW_irem, qW_dup2, qW_ifne, qW_icne, qW_icle, qW_goto, qW_getf, qW_iald, qW_iast, qW_cs1_0, qW_cv1_0, qW_cv2_2, qW_cv3_0, qW_cv3_2, qW_iret0, Nat.reduceAdd, Nat.reduceMul, Nat.reduceBEq, Nat.reduceEqDiff, Nat.reduceLT, Nat.reduceLeDiff, Nat.zero_le, nI_add, nI_mul, nI_cl, qin_eq, qofI, qlg_0, qlg_s, qls_i0, qls_r0, qls_l0, qls_1, qls_2, qkl_i, qkl_r, qkl_l, qkl_n, qIsI_i, qIsL_l, qIsR_r, qint_i, qil_i, qil_r, qil_l, qf4_0, qf4_1, qf4_2, qf4_3, qf2_0, qf2_1, qcs_n, qcs_i, qcs_r, qcs_l, qst_n, qst_c, qJ_0, qJ_st, qJ_go, qfl_I, qfl_Z, qfl_L, qfl_R, qrI_i, qrL_l, qrV_v, qRcv_0, qRcv_s, eq_self, true_and, and_true, true_or, or_true, false_and, and_false, false_or, or_false, ite_true, if_true, if_false, Bool.true_or, Bool.false_or, Bool.or_false, beq_self_eq_true, Bool.false_eq_true, bX12_playing_0, bX12_playing_9, bX12_playing_33, bX12_playing_73, bX12_playing_92, bX12_playing_109, bX12_playing_110, bX12_playing_119, bX12_playing_138, bX12_playing_166, kX12_playing_0, kX12_playing_9, kX12_playing_33, kX12_playing_73, kX12_playing_92, kX12_playing_109, kX12_playing_110, kX12_playing_119, kX12_playing_138, kX12_playing_166, qK_139, qR_139_0, qK_140, qR_139_1, qK_141, qR_139_5, qK_142, qR_139_6, qK_143, qR_139_7, qK_144, qR_139_8, qK_145, qR_139_9, qK_146, qR_139_21, qK_147, qR_139_25, qK_148, qR_139_30, qK_149, qR_139_31, qK_150, qR_139_33, qK_151, qR_139_34, qK_152, qR_139_35, qK_153, qR_139_36, qK_154, qR_139_39, qK_155, qR_139_40, qK_156, qR_139_41, qK_157]
    simp (disch := omega) only [nI_leI, nI_ltI, nI_eq, nI_cl, qin_eq, nI_add, nI_mul, qb_z, qb_t, qb_f, nI_ne0', Nat.reduceAdd, Bool.false_eq_true, if_false, if_true, true_and, and_true, Nat.reduceEqDiff, not_true_eq_false, not_false_eq_true, false_implies, true_implies, ite_true, ite_false]
    refine ⟨fun h1 => absurd (by omega) h1, fun _ => ?_⟩
    refine qBI.of (m_breakfastNow b1 hwd hmd) (by decide) (fun r σ3 h3 => ?_)
    obtain ⟨rfl, f3⟩ := h3
    have c2 : zM σ3 (2736 + 88 * l) C := b2.keep hw fun j hj => f3.1 _ _ (by unfold zPk; omega)
    have c3 : σ3.1 151 l = nI q := by rw [f3.1 _ _ (by unfold zPk; omega), b3]
    have c4 := zAcc_f b4 (fun a j h1 => f3.1 a j (by unfold zPk; omega))
    refine qBV.of (m_settles (by omega) (by omega) (by omega) c4 (fun s hs => by have := hb s hs; omega) c3) (by decide) (fun σ4 h4 => ?_)
    obtain ⟨d4, f4⟩ := h4
    refine go σ4 (f2.tr ((f3.wk fun a j h1 => ?_).tr (f4.wk fun a j h1 => ?_))) (c2.keep hw fun j hj => f4.1 _ _ (by omega)) (by rw [f4.1 _ _ (by omega), c3]) d4
    · unfold zPk at h1; unfold zPg; omega
    · unfold zPg; omega
  | succ f ihf =>
    intro l hl C hw hm σ K σ1 f1 a1 hd ha
    refine playing_run Q ht (by omega) hw (V := fun q => zplay (f + 1) (l + 1) (zdeed C l q)) σ K (fun q σ2 hq f2 b1 b2 b3 b4 go => ?_) 0 (Nat.zero_le _) σ1 f1 a1 hd ha
    have hwd := zdeed_W (l := l) hw hq
    have hmd : zdeed C l q 0 5 ≤ 99000 := by rw [zdeed_q _ _ _ _ _ (by decide) (by decide)]; exact hm
    have hb := fun s hs => zfold_bd (M := 130) (ok := zdok C) (l := l) (V := fun q => zplay (f + 1) (l + 1) (zdeed C l q)) q (fun i hi => zplay_bd (f + 1) (l + 1) (zdeed_W (l := l) hw (by omega)) (by rw [zdeed_q _ _ _ _ _ (by decide) (by decide)]; exact hm)) s hs
    have hv := zplay_bd (f + 1) (l + 1) hwd hmd
    have hq10 := hw.2.1
    have hz : ∃ s, zmove f (l + 1) (zdeed C l q) = some s ∧ zplay (f + 1) (l + 1) (zdeed C l q) = s.2 := by
      obtain ⟨s, hs⟩ := zfold_some (V := fun q' => zplay f (l + 1 + 1) (zdeed (zdeed C l q) (l + 1) q')) (ok := zdok (zdeed C l q)) (l := l + 1) (q := zdeed C l q 0 1) (by simp [zdok])
      refine ⟨s, hs, ?_⟩
      rw [zplay, hs]
      rfl
    obtain ⟨s, hs, hs2⟩ := hz
    refine qV.go 30 [33, 73] ok_347 ?_
    simp only [qW_nop, qW_iconst, qW_iconstm, qW_iloadn, qW_aloadn, qW_istoren, qW_iinc, qW_iincm, qW_iadd, qW_irem, qW_dup2, qW_ifne, qW_icne, qW_icle, qW_goto, qW_getf, qW_iald, qW_iast, qW_cs1_0, qW_cv1_0, qW_cv2_2, qW_cv3_0, qW_cv3_2, qW_iret0, Nat.reduceAdd, Nat.reduceMul, Nat.reduceBEq, Nat.reduceEqDiff, Nat.reduceLT, Nat.reduceLeDiff, Nat.zero_le, nI_add, nI_mul, nI_cl, qin_eq, qofI, qlg_0, qlg_s, qls_i0, qls_r0, qls_l0, qls_1, qls_2, qkl_i, qkl_r, qkl_l, qkl_n, qIsI_i, qIsL_l, qIsR_r, qint_i, qil_i, qil_r, qil_l, qf4_0, qf4_1, qf4_2, qf4_3, qf2_0, qf2_1, qcs_n, qcs_i, qcs_r, qcs_l, qst_n, qst_c, qJ_0, qJ_st, qJ_go, qfl_I, qfl_Z, qfl_L, qfl_R, qrI_i, qrL_l, qrV_v, qRcv_0, qRcv_s, eq_self, true_and, and_true, true_or, or_true, false_and, and_false, false_or, or_false, ite_true, if_true, if_false, Bool.true_or, Bool.false_or, Bool.or_false, beq_self_eq_true, Bool.false_eq_true, bX12_playing_0, bX12_playing_9, bX12_playing_33, bX12_playing_73, bX12_playing_92, bX12_playing_109, bX12_playing_110, bX12_playing_119, bX12_playing_138, bX12_playing_166, kX12_playing_0, kX12_playing_9, kX12_playing_33, kX12_playing_73, kX12_playing_92, kX12_playing_109, kX12_playing_110, kX12_playing_119, kX12_playing_138, kX12_playing_166, qK_139, qR_139_0, qK_140, qR_139_1, qK_141, qR_139_5, qK_142, qR_139_6, qK_143, qR_139_7, qK_144, qR_139_8, qK_145, qR_139_9, qK_146, qR_139_21, qK_147, qR_139_25, qK_148, qR_139_30, qK_149, qR_139_31, qK_150, qR_139_33, qK_151, qR_139_34, qK_152, qR_139_35, qK_153, qR_139_36, qK_154, qR_139_39, qK_155, qR_139_40, qK_156, qR_139_41, qK_157]
    simp (disch := omega) only [nI_leI, nI_ltI, nI_eq, nI_cl, qin_eq, nI_add, nI_mul, qb_z, qb_t, qb_f, nI_ne0', Nat.reduceAdd, Bool.false_eq_true, if_false, if_true, true_and, and_true, Nat.reduceEqDiff, not_true_eq_false, not_false_eq_true, false_implies, true_implies, ite_true, ite_false]
    refine ⟨fun h1 => ?_, fun h1 => absurd h1 (by omega)⟩
    refine qBI.fn (m_levelAt σ2 (by omega)) (by decide) (qBV.of (m_keeps σ2 (by omega) (by omega)) (by decide) (fun σ3 h3 => ?_))
    subst h3
    have e1 : zM (zmv σ2 140 0 (2736 + 88 * (l + 1)) 88) (2736 + 88 * (l + 1)) (zdeed C l q) := zM_mv b1 hwd
    have e2 : zM (zmv σ2 140 0 (2736 + 88 * (l + 1)) 88) (2736 + 88 * l) C := b2.keep hw fun j hj => by
      simp only [zmv]
      exact if_neg (by omega)
    have e3 : (zmv σ2 140 0 (2736 + 88 * (l + 1)) 88).1 151 l = nI q := by
      rw [← b3]
      simp only [zmv]
      rw [if_neg (fun h => absurd h.1 (by decide))]
    have e4 : zAcc (zmv σ2 140 0 (2736 + 88 * (l + 1)) 88) l (zfold (fun q => zplay (f + 1) (l + 1) (zdeed C l q)) (zdok C) l q) := zAcc_f b4 (fun a j h1 => by
      simp only [zmv]
      rw [if_neg (by omega)])
    have e5 : zF (zPg l) σ (zmv σ2 140 0 (2736 + 88 * (l + 1)) 88) := f2.tr (zF_mv fun j h1 h2 => Or.inl ⟨rfl, by omega⟩)
    generalize zmv σ2 140 0 (2736 + 88 * (l + 1)) 88 = σ3 at e1 e2 e3 e4 e5 ⊢
    have g0 : zF (zPg l) σ (qwi (qwi σ3 151 (l + 1) (iI (-1))) 153 (l + 1) (iI (-1))) := (e5.tr (zF.wi (Or.inr (Or.inr ⟨Or.inl rfl, by omega⟩)))).tr (zF.wi (Or.inr (Or.inr ⟨Or.inr (Or.inr rfl), by omega⟩)))
    have g1 : zM (qwi (qwi σ3 151 (l + 1) (iI (-1))) 153 (l + 1) (iI (-1))) (2736 + 88 * (l + 1)) (zdeed C l q) := e1.keep hwd fun j hj => by rw [qwi_1, if_neg (by omega), qwi_1, if_neg (by omega)]
    have g2 : zM (qwi (qwi σ3 151 (l + 1) (iI (-1))) 153 (l + 1) (iI (-1))) (2736 + 88 * l) C := e2.keep hw fun j hj => by rw [qwi_1, if_neg (by omega), qwi_1, if_neg (by omega)]
    have g3 : (qwi (qwi σ3 151 (l + 1) (iI (-1))) 153 (l + 1) (iI (-1))).1 151 l = nI q := by rw [qwi_1, if_neg (by omega), qwi_1, if_neg (by omega), e3]
    have g4 := zAcc_f (σ' := qwi (qwi σ3 151 (l + 1) (iI (-1))) 153 (l + 1) (iI (-1))) e4 (fun a j h1 => by rw [qwi_1, if_neg (by omega), qwi_1, if_neg (by omega)])
    have g5 : (qwi (qwi σ3 151 (l + 1) (iI (-1))) 153 (l + 1) (iI (-1))).1 151 (l + 1) + nI 1 = nI 0 := by
      rw [qwi_1, if_neg (by omega), qwi_1, if_pos ⟨rfl, rfl⟩]
      decide
    have g6 : (qwi (qwi σ3 151 (l + 1) (iI (-1))) 153 (l + 1) (iI (-1))).1 153 (l + 1) = iI (-1) := by rw [qwi_1, if_pos ⟨rfl, rfl⟩]
    generalize qwi (qwi σ3 151 (l + 1) (iI (-1))) 153 (l + 1) (iI (-1)) = σ4 at g0 g1 g2 g3 g4 g5 g6 ⊢
    refine ihf (l + 1) (by omega) hwd hmd σ4 (fun σ5 f5 k1 k2 => ?_) σ4 zF.rf g1 g5 g6
    rw [if_neg (by omega)]
    rw [hs] at k2
    obtain ⟨k3, k4⟩ := k2
    refine qV.go 30 [33] ok_347 ?_
    simp only [qW_nop, qW_iconst, qW_iconstm, qW_iloadn, qW_aloadn, qW_istoren, qW_iinc, qW_iincm, qW_iadd, qW_irem, qW_dup2, qW_ifne, qW_icne, qW_icle, qW_goto, qW_getf, qW_iald, qW_iast, qW_cs1_0, qW_cv1_0, qW_cv2_2, qW_cv3_0, qW_cv3_2, qW_iret0, Nat.reduceAdd, Nat.reduceMul, Nat.reduceBEq, Nat.reduceEqDiff, Nat.reduceLT, Nat.reduceLeDiff, Nat.zero_le, nI_add, nI_mul, nI_cl, qin_eq, qofI, qlg_0, qlg_s, qls_i0, qls_r0, qls_l0, qls_1, qls_2, qkl_i, qkl_r, qkl_l, qkl_n, qIsI_i, qIsL_l, qIsR_r, qint_i, qil_i, qil_r, qil_l, qf4_0, qf4_1, qf4_2, qf4_3, qf2_0, qf2_1, qcs_n, qcs_i, qcs_r, qcs_l, qst_n, qst_c, qJ_0, qJ_st, qJ_go, qfl_I, qfl_Z, qfl_L, qfl_R, qrI_i, qrL_l, qrV_v, qRcv_0, qRcv_s, eq_self, true_and, and_true, true_or, or_true, false_and, and_false, false_or, or_false, ite_true, if_true, if_false, Bool.true_or, Bool.false_or, Bool.or_false, beq_self_eq_true, Bool.false_eq_true, bX12_playing_0, bX12_playing_9, bX12_playing_33, bX12_playing_73, bX12_playing_92, bX12_playing_109, bX12_playing_110, bX12_playing_119, bX12_playing_138, bX12_playing_166, kX12_playing_0, kX12_playing_9, kX12_playing_33, kX12_playing_73, kX12_playing_92, kX12_playing_109, kX12_playing_110, kX12_playing_119, kX12_playing_138, kX12_playing_166, qK_139, qR_139_0, qK_140, qR_139_1, qK_141, qR_139_5, qK_142, qR_139_6, qK_143, qR_139_7, qK_144, qR_139_8, qK_145, qR_139_9, qK_146, qR_139_21, qK_147, qR_139_25, qK_148, qR_139_30, qK_149, qR_139_31, qK_150, qR_139_33, qK_151, qR_139_34, qK_152, qR_139_35, qK_153, qR_139_36, qK_154, qR_139_39, qK_155, qR_139_40, qK_156, qR_139_41, qK_157]
    have e6 : nI (l + 1) + iI (-1) = nI l := by
      rw [← nI_add, Int32.add_assoc, show nI 1 + iI (-1) = 0 by decide, Int32.add_zero]
    rw [e6, nI_add]
    simp only [nI_c (show l + 1 < 2147483648 by omega)]
    rw [k4, ← hs2]
    refine ⟨qin_n (by omega) (by decide), ?_⟩
    have c2 : zM σ5 (2736 + 88 * l) C := g2.keep hw fun j hj => f5.1 _ _ (by unfold zPg; omega)
    have c3 : σ5.1 151 l = nI q := by rw [f5.1 _ _ (by unfold zPg; omega), g3]
    have c4 := zAcc_f g4 (fun a j h1 => f5.1 a j (by unfold zPg; omega))
    refine qBV.of (m_settles (by omega) (by omega) (by omega) c4 (fun s hs => by have := hb s hs; omega) c3) (by decide) (fun σ6 h6 => ?_)
    obtain ⟨d4, f6⟩ := h6
    refine go σ6 (g0.tr ((f5.wk fun a j h1 => ?_).tr (f6.wk fun a j h1 => ?_))) (c2.keep hw fun j hj => f6.1 _ _ (by omega)) (by rw [f6.1 _ _ (by omega), c3]) d4
    · unfold zPg at h1 ⊢; omega
    · unfold zPg; omega
/-- the deed's number and what comes of it, kept behind a game -/
def zGone (σ : qSg) (turns : Nat) (C : zC) : Prop := turns ≠ 0 → zAcc σ 0 (zmove (turns - 1) 0 C)
def zPgg (a j : Nat) : Prop := (a = 140 ∧ ((j < 88 ∧ j ≠ 6) ∨ (2280 ≤ j ∧ j < 2368) ∨ (2736 ≤ j ∧ j < 3000))) ∨ (a = 139 ∧ j = 24) ∨ (a = 151 ∨ a = 152 ∨ a = 153)
set_option maxRecDepth 20000 in
theorem m_playing {σ : qSg} {C : zC} (h : zM σ 0 C) (hw : zW C) (hm : C 0 5 ≤ 99000) {turns : Nat} (ht : turns ≤ 3) :
    qCI 9 347 [qr 139, qi (nI turns)] σ (fun r σ' => r = nI (zplay turns 0 C) ∧ zM σ' 0 C ∧ zGone σ' turns C ∧ zF zPgg σ σ') := by
  refine qCI.of [some (qr 139), some (qi (nI turns)), none] ok_347 (Nat.le_of_ble_eq_true rfl) rfl ?_
  refine qV.go 30 [33] ok_347 ?_
  simp only [qW_nop, qW_iconst, qW_iconstm, qW_iloadn, qW_aloadn, qW_istoren, qW_iinc, qW_iincm, qW_iadd, qW_irem, qW_dup2, qW_ifne, qW_icne, qW_icle, qW_goto, qW_getf, qW_iald, qW_iast, qW_cs1_0, qW_cv1_0, qW_cv2_2, qW_cv3_0, qW_cv3_2, qW_iret0, Nat.reduceAdd, Nat.reduceMul, Nat.reduceBEq, Nat.reduceEqDiff, Nat.reduceLT, Nat.reduceLeDiff, Nat.zero_le, nI_add, nI_mul, nI_cl, qin_eq, qofI, qlg_0, qlg_s, qls_i0, qls_r0, qls_l0, qls_1, qls_2, qkl_i, qkl_r, qkl_l, qkl_n, qIsI_i, qIsL_l, qIsR_r, qint_i, qil_i, qil_r, qil_l, qf4_0, qf4_1, qf4_2, qf4_3, qf2_0, qf2_1, qcs_n, qcs_i, qcs_r, qcs_l, qst_n, qst_c, qJ_0, qJ_st, qJ_go, qfl_I, qfl_Z, qfl_L, qfl_R, qrI_i, qrL_l, qrV_v, qRcv_0, qRcv_s, eq_self, true_and, and_true, true_or, or_true, false_and, and_false, false_or, or_false, ite_true, if_true, if_false, Bool.true_or, Bool.false_or, Bool.or_false, beq_self_eq_true, Bool.false_eq_true, bX12_playing_0, bX12_playing_9, bX12_playing_33, bX12_playing_73, bX12_playing_92, bX12_playing_109, bX12_playing_110, bX12_playing_119, bX12_playing_138, bX12_playing_166, kX12_playing_0, kX12_playing_9, kX12_playing_33, kX12_playing_73, kX12_playing_92, kX12_playing_109, kX12_playing_110, kX12_playing_119, kX12_playing_138, kX12_playing_166, qK_139, qR_139_0, qK_140, qR_139_1, qK_141, qR_139_5, qK_142, qR_139_6, qK_143, qR_139_7, qK_144, qR_139_8, qK_145, qR_139_9, qK_146, qR_139_21, qK_147, qR_139_25, qK_148, qR_139_30, qK_149, qR_139_31, qK_150, qR_139_33, qK_151, qR_139_34, qK_152, qR_139_35, qK_153, qR_139_36, qK_154, qR_139_39, qK_155, qR_139_40, qK_156, qR_139_41, qK_157]
  simp (disch := omega) only [nI_leI, nI_ltI, nI_eq, nI_cl, qin_eq, nI_add, nI_mul, qb_z, qb_t, qb_f, nI_ne0', Nat.reduceAdd, Bool.false_eq_true, if_false, if_true, true_and, and_true, Nat.reduceEqDiff, not_true_eq_false, not_false_eq_true, false_implies, true_implies, ite_true, ite_false]
  refine ⟨fun h1 => ?_, fun h1 => ?_⟩
  · obtain ⟨f, rfl⟩ : ∃ f, turns = f + 1 := ⟨turns - 1, by omega⟩
    have e299 := m_levelAt σ (l := 0) (by decide)
    refine qBI.fn e299 (by decide) (qBV.of (m_keeps σ (t := 2736) (by decide) (by decide)) (by decide) (fun σ2 h2 => ?_))
    subst h2
    have e1 : zM (zmv σ 140 0 2736 88) 2736 C := zM_mv h hw
    have e5 : zF zPgg σ (zmv σ 140 0 2736 88) := zF_mv fun j h1 h2 => Or.inl ⟨rfl, by omega⟩
    have e6 : (zmv σ 140 0 2736 88).1 140 2742 = σ.1 140 6 := by
      simp only [zmv]
      rw [if_pos (by decide)]
    generalize zmv σ 140 0 2736 88 = σ2 at e1 e5 e6 ⊢
    have g0 : zF zPgg σ (qwi (qwi σ2 151 0 (iI (-1))) 153 0 (iI (-1))) := (e5.tr (zF.wi (Or.inr (Or.inr (Or.inl rfl))))).tr (zF.wi (Or.inr (Or.inr (Or.inr (Or.inr rfl)))))
    have g1 : zM (qwi (qwi σ2 151 0 (iI (-1))) 153 0 (iI (-1))) (2736 + 88 * 0) C := e1.keep hw fun j hj => by rw [qwi_1, if_neg (by omega), qwi_1, if_neg (by omega)]
    have g5 : (qwi (qwi σ2 151 0 (iI (-1))) 153 0 (iI (-1))).1 151 0 + nI 1 = nI 0 := by
      rw [qwi_1, if_neg (by omega), qwi_1, if_pos ⟨rfl, rfl⟩]
      decide
    have g6 : (qwi (qwi σ2 151 0 (iI (-1))) 153 0 (iI (-1))).1 153 0 = iI (-1) := by rw [qwi_1, if_pos ⟨rfl, rfl⟩]
    have g7 : (qwi (qwi σ2 151 0 (iI (-1))) 153 0 (iI (-1))).1 140 2742 = σ.1 140 6 := by rw [qwi_1, if_neg (by omega), qwi_1, if_neg (by omega), e6]
    generalize qwi (qwi σ2 151 0 (iI (-1))) 153 0 (iI (-1)) = σ3 at g0 g1 g5 g6 g7 ⊢
    have hz : ∃ s, zmove f 0 C = some s ∧ zplay (f + 1) 0 C = s.2 := by
      obtain ⟨s, hs⟩ := zfold_some (V := fun q' => zplay f (0 + 1) (zdeed C 0 q')) (ok := zdok C) (l := 0) (q := C 0 1) (by simp [zdok])
      refine ⟨s, hs, ?_⟩
      rw [zplay, hs]
      rfl
    obtain ⟨s, hs, hs2⟩ := hz
    refine playing_lvl _ ht f 0 (by omega) hw hm σ3 (fun σ4 f4 k1 k2 => ?_) σ3 zF.rf g1 g5 g6
    rw [if_pos rfl]
    refine qV.go 30 [9999] ok_347 ?_
    simp only [qW_nop, qW_iconst, qW_iconstm, qW_iloadn, qW_aloadn, qW_istoren, qW_iinc, qW_iincm, qW_iadd, qW_irem, qW_dup2, qW_ifne, qW_icne, qW_icle, qW_goto, qW_getf, qW_iald, qW_iast, qW_cs1_0, qW_cv1_0, qW_cv2_2, qW_cv3_0, qW_cv3_2, qW_iret0, Nat.reduceAdd, Nat.reduceMul, Nat.reduceBEq, Nat.reduceEqDiff, Nat.reduceLT, Nat.reduceLeDiff, Nat.zero_le, nI_add, nI_mul, nI_cl, qin_eq, qofI, qlg_0, qlg_s, qls_i0, qls_r0, qls_l0, qls_1, qls_2, qkl_i, qkl_r, qkl_l, qkl_n, qIsI_i, qIsL_l, qIsR_r, qint_i, qil_i, qil_r, qil_l, qf4_0, qf4_1, qf4_2, qf4_3, qf2_0, qf2_1, qcs_n, qcs_i, qcs_r, qcs_l, qst_n, qst_c, qJ_0, qJ_st, qJ_go, qfl_I, qfl_Z, qfl_L, qfl_R, qrI_i, qrL_l, qrV_v, qRcv_0, qRcv_s, eq_self, true_and, and_true, true_or, or_true, false_and, and_false, false_or, or_false, ite_true, if_true, if_false, Bool.true_or, Bool.false_or, Bool.or_false, beq_self_eq_true, Bool.false_eq_true, bX12_playing_0, bX12_playing_9, bX12_playing_33, bX12_playing_73, bX12_playing_92, bX12_playing_109, bX12_playing_110, bX12_playing_119, bX12_playing_138, bX12_playing_166, kX12_playing_0, kX12_playing_9, kX12_playing_33, kX12_playing_73, kX12_playing_92, kX12_playing_109, kX12_playing_110, kX12_playing_119, kX12_playing_138, kX12_playing_166, qK_139, qR_139_0, qK_140, qR_139_1, qK_141, qR_139_5, qK_142, qR_139_6, qK_143, qR_139_7, qK_144, qR_139_8, qK_145, qR_139_9, qK_146, qR_139_21, qK_147, qR_139_25, qK_148, qR_139_30, qK_149, qR_139_31, qK_150, qR_139_33, qK_151, qR_139_34, qK_152, qR_139_35, qK_153, qR_139_36, qK_154, qR_139_39, qK_155, qR_139_40, qK_156, qR_139_41, qK_157]
    refine qBI.fn (m_levelAt σ4 (l := 0) (by decide)) (by decide) (qBV.of (m_restores σ4 (t := 2736) (by decide) (by decide)) (by decide) (fun σ5 h5 => ?_))
    subst h5
    have k4 : zAcc (zmv σ4 140 2736 0 88) 0 (zmove f 0 C) := zAcc_f k2 (fun a j h1 => by
      simp only [zmv]
      rw [if_neg (by omega)])
    have k5 := k4
    rw [hs] at k5
    refine ⟨?_, zM_mv k1 hw, fun _ => k4, fun a j h1 => ?_, f4.2.trans g0.2⟩
    · rw [hs2]
      exact k5.2
    · simp only [zmv]
      by_cases e : a = 140 ∧ j = 6
      · obtain ⟨rfl, rfl⟩ := e
        rw [if_pos (by omega)]
        rw [show 2736 + (6 - 0) = 2742 by rfl, f4.1 _ _ (by unfold zPg; omega), g7]
      · rw [if_neg (by unfold zPgg at h1; omega), f4.1 _ _ (by unfold zPgg at h1; unfold zPg; omega), g0.1 _ _ h1]
  · subst h1
    refine qBI.of (m_breakfastNow h hw hm) (by decide) (fun r σ3 h3 => ?_)
    obtain ⟨rfl, f3⟩ := h3
    refine ⟨rfl, h.keep hw fun j hj => f3.1 _ _ (by unfold zPk; omega), fun h1 => absurd rfl h1, f3.wk fun a j h1 => ?_⟩
    unfold zPk at h1; unfold zPgg; omega
