/-! the reference: nights -/
theorem zcount_sh (p : Nat → Bool) : ∀ n, zcount p (n + 1) = (if p 0 then 1 else 0) + zcount (fun i => p (i + 1)) n
  | 0 => by simp [zcount]
  | n + 1 => by
    rw [zcount, zcount_sh p n, zcount]
    omega
theorem zcount_cg {p p' : Nat → Bool} : ∀ n, (∀ i, i < n → p i = p' i) → zcount p n = zcount p' n
  | 0, _ => rfl
  | n + 1, h => by
    rw [zcount, zcount, zcount_cg n (fun i hi => h i (by omega)), h n (by omega)]
theorem zpopf_count : ∀ f n, zpopf f n = zcount (fun i => n.testBit i) f
  | 0, _ => rfl
  | f + 1, n => by
    rw [zpopf, zcount_sh, zpopf_count f, zcount_cg f (fun i _ => Nat.testBit_succ n i)]
    have : n.testBit 0 = decide (n % 2 = 1) := Nat.testBit_zero n
    rw [this]
    have h2 := Nat.mod_two_eq_zero_or_one n
    rcases h2 with h2 | h2 <;> simp [h2]
theorem zcount_up (p : Nat → Bool) (n : Nat) : ∀ k, zcount (fun i => decide (i < n) && p i) (n + k) = zcount p n
  | 0 => zcount_cg n fun i hi => by simp [hi]
  | k + 1 => by
    rw [← Nat.add_assoc, zcount, zcount_up p n k]
    simp only [show ¬ n + k < n by omega, decide_false, Bool.false_and]
    simp
theorem zpop_bm {p : Nat → Bool} {n : Nat} (h : n ≤ 32) : zpop (bm n p) = zcount p n := by
  have h1 : zpop (bm n p) = zpopf 32 (bm n p) := rfl
  rw [h1, zpopf_count, zcount_cg 32 (fun i _ => bm_bit n p i)]
  have := zcount_up p n (32 - n)
  rwa [show n + (32 - n) = 32 by omega] at this
/-- of 16 to the power of k: how many leave i open -/
def zni (odds : Nat) : Nat → Nat → Nat
  | 0, i => if i = 0 then 1 else 0
  | k + 1, 0 => zni odds k 0 * odds
  | k + 1, i + 1 => zni odds k (i + 1) * odds + zni odds k i * (16 - odds)
theorem zni_s (odds k i : Nat) : zni odds (k + 1) i = zni odds k i * odds + (if i = 0 then 0 else zni odds k (i - 1) * (16 - odds)) := by
  cases i with
  | zero => simp [zni]
  | succ i => simp [zni]
theorem zni_le {odds : Nat} (h : odds ≤ 16) : ∀ k i, zni odds k i ≤ 16 ^ k
  | 0, i => by
    simp only [zni]
    split <;> decide
  | k + 1, 0 => by
    have := Nat.mul_le_mul (zni_le h k 0) h
    rw [Nat.pow_succ, zni]
    exact this
  | k + 1, i + 1 => by
    have h1 := Nat.mul_le_mul_right odds (zni_le h k (i + 1))
    have h2 := Nat.mul_le_mul_right (16 - odds) (zni_le h k i)
    rw [Nat.pow_succ, zni]
    have h3 : 16 ^ k * 16 = 16 ^ k * odds + 16 ^ k * (16 - odds) := by
      rw [← Nat.mul_add]
      congr 1
      omega
    omega
def znsum (odds k n : Nat) : Nat := zsum n (zni odds k)
def zRn (a : Nat) (_ : Nat) : Prop := a = 154
def zNq (C : zC) (n : Nat) (σ : qSg) : qQ := .inl fun r σ' => ∃ σ1, r = nI 1 ∧ σ' = ztell σ1 (znsum (C 0 4) (zcount (zOpen C) (C 0 1)) (n + 1)) (16 ^ zcount (zOpen C) (C 0 1)) ∧ zG (fun _ _ => False) zRn σ σ1
def zNa (C : zC) (k : Nat) (σ : qSg) : Prop := ∀ j, j < 11 → σ.2 154 j = lN (zni (C 0 4) k j)
set_option maxRecDepth 20000 in
theorem night_4 {σ : qSg} {C : zC} (hw : zW C) {n : Nat} (hn : n ≤ 10) {σ1 : qSg} (f : zG (fun _ _ => False) zRn σ σ1) (ha : zNa C (zcount (zOpen C) (C 0 1)) σ1) :
    qV 350 4 (zNq C n σ) 164 [some (qr 139), some (qi (nI n)), some (ql (lN (16 ^ zcount (zOpen C) (C 0 1)))), none, some (ql (lN 0)), none, some (qi (nI 0))] [] σ1 := by
  obtain ⟨wb, wq, ww1, ww2, wh1, wh2, wo, wm, wB, wQ⟩ := id hw
  have hc : zcount (zOpen C) (C 0 1) ≤ 10 := Nat.le_trans (zcount_le _ _) wq
  have hp : (16 : Nat) ^ zcount (zOpen C) (C 0 1) ≤ 16 ^ 10 := Nat.pow_le_pow_right (by decide) hc
  have hp0 : 0 < (16 : Nat) ^ zcount (zOpen C) (C 0 1) := Nat.pow_pos (by decide)
  have hz : ∀ i, i ≤ 11 → zsum i (zni (C 0 4) (zcount (zOpen C) (C 0 1))) ≤ i * 16 ^ 10 := by
    intro i
    induction i with
    | zero => intro _; simp [zsum]
    | succ i ih =>
      intro hi
      have := ih (by omega)
      have h2 := zni_le wo (zcount (zOpen C) (C 0 1)) i
      rw [zsum, Nat.add_mul]
      omega
  refine qdown (n := n + 1) (P := fun i => qV 350 4 (zNq C n σ) 164 [some (qr 139), some (qi (nI n)), some (ql (lN (16 ^ zcount (zOpen C) (C 0 1)))), none, some (ql (lN (zsum i (zni (C 0 4) (zcount (zOpen C) (C 0 1)))))), none, some (qi (nI i))] [] σ1) (fun i hi ih => ?_) 0 (Nat.zero_le _)
  unfold zNq
  refine qV.go 30 [164] ok_350 ?_
  simp only [qW_nop, qW_iconst, qW_bipush, qW_ldc2, qW_lconst, qW_iloadn, qW_iload, qW_lloadn, qW_lload, qW_aloadn, qW_istore, qW_lstoren, qW_lstore, qW_iinc, qW_iincm, qW_isub, qW_ladd, qW_lmul, qW_i2l, qW_ifne, qW_iflt, qW_icge, qW_icgt, qW_goto, qW_getf, qW_iald, qW_lald, qW_last, qW_cs3_0, qW_cv2_0, qW_cv3_0, qW_iret1, Nat.reduceAdd, Nat.reduceMul, Nat.reduceBEq, Nat.reduceEqDiff, Nat.reduceLT, Nat.reduceLeDiff, Nat.zero_le, nI_add, nI_mul, nI_cl, qin_eq, qofI, qlg_0, qlg_s, qls_i0, qls_r0, qls_l0, qls_1, qls_2, qkl_i, qkl_r, qkl_l, qkl_n, qIsI_i, qIsL_l, qIsR_r, qint_i, qil_i, qil_r, qil_l, qf4_0, qf4_1, qf4_2, qf4_3, qf2_0, qf2_1, qcs_n, qcs_i, qcs_r, qcs_l, qst_n, qst_c, qJ_0, qJ_st, qJ_go, qfl_I, qfl_Z, qfl_L, qfl_R, qrI_i, qrL_l, qrV_v, qRcv_0, qRcv_s, eq_self, true_and, and_true, true_or, or_true, false_and, and_false, false_or, or_false, ite_true, if_true, if_false, Bool.true_or, Bool.false_or, Bool.or_false, beq_self_eq_true, Bool.false_eq_true, bX12_night_0, bX12_night_18, bX12_night_23, bX12_night_45, bX12_night_46, bX12_night_53, bX12_night_56, bX12_night_79, bX12_night_83, bX12_night_118, bX12_night_138, bX12_night_146, bX12_night_152, bX12_night_158, bX12_night_164, bX12_night_188, kX12_night_0, kX12_night_18, kX12_night_23, kX12_night_45, kX12_night_46, kX12_night_53, kX12_night_56, kX12_night_79, kX12_night_83, kX12_night_118, kX12_night_138, kX12_night_146, kX12_night_152, kX12_night_158, kX12_night_164, kX12_night_188, qK_139, qR_139_0, qK_140, qR_139_1, qK_141, qR_139_5, qK_142, qR_139_6, qK_143, qR_139_7, qK_144, qR_139_8, qK_145, qR_139_9, qK_146, qR_139_21, qK_147, qR_139_25, qK_148, qR_139_30, qK_149, qR_139_31, qK_150, qR_139_33, qK_151, qR_139_34, qK_152, qR_139_35, qK_153, qR_139_36, qK_154, qR_139_39, qK_155, qR_139_40, qK_156, qR_139_41, qK_157]
  simp (disch := omega) only [nI_leI, nI_ltI, nI_eq, nI_cl, qin_eq, nI_add, nI_mul, qb_z, qb_t, qb_f, nI_ne0', Nat.reduceAdd, Bool.false_eq_true, if_false, if_true, true_and, and_true, Nat.reduceEqDiff, not_true_eq_false, not_false_eq_true, false_implies, true_implies, ite_true, ite_false]
  refine ⟨fun h1 => ?_, fun h1 => ?_⟩
  · obtain rfl : i = n + 1 := by omega
    have h3 := hz (n + 1) (by omega)
    refine qBI.of (m_tellsBy σ1 (by omega) (by omega) hp0) (by decide) (fun r σ2 h2 => ?_)
    obtain ⟨rfl, rfl⟩ := h2
    exact ⟨Or.inr rfl, σ1, rfl, rfl, f⟩
  · refine ⟨qin_n (by omega) (by decide), ?_⟩
    rw [ha i (by omega), lN_add]
    exact ih (by omega)
set_option maxRecDepth 20000 in
theorem night_3 {σ : qSg} {C : zC} (h : zM σ 0 C) (hw : zW C) {n k : Nat} (Q : qQ) (A : Int64) (x4 : Int32)
    (K : ∀ σ2 (l5 : Option qPV), zG (fun _ _ => False) zRn σ σ2 → zNa C (k + 1) σ2 → qV 350 4 Q 152 [some (qr 139), some (qi (nI n)), some (ql (A * lN 16)), none, some (qi x4), l5, none] [] σ2) :
    ∀ t, t ≤ 11 → ∀ σ1 x, x = (if t = 0 then iI (-1) else nI (t - 1)) → zG (fun _ _ => False) zRn σ σ1 → (∀ j, j < 11 → σ1.2 154 j = lN (zni (C 0 4) (if t ≤ j then k + 1 else k) j)) → qV 350 4 Q 83 [some (qr 139), some (qi (nI n)), some (ql A), none, some (qi x4), some (qi x), none] [] σ1 := by
  obtain ⟨wb, wq, ww1, ww2, wh1, wh2, wo, wm, wB, wQ⟩ := id hw
  intro t
  induction t with
  | zero =>
    intro ht σ1 x hx f1 a1
    subst hx
    rw [if_pos rfl]
    refine qV.go 30 [83, 152, 118] ok_350 ?_
    simp only [qW_nop, qW_iconst, qW_bipush, qW_ldc2, qW_lconst, qW_iloadn, qW_iload, qW_lloadn, qW_lload, qW_aloadn, qW_istore, qW_lstoren, qW_lstore, qW_iinc, qW_iincm, qW_isub, qW_ladd, qW_lmul, qW_i2l, qW_ifne, qW_iflt, qW_icge, qW_icgt, qW_goto, qW_getf, qW_iald, qW_lald, qW_last, qW_cs3_0, qW_cv2_0, qW_cv3_0, qW_iret1, Nat.reduceAdd, Nat.reduceMul, Nat.reduceBEq, Nat.reduceEqDiff, Nat.reduceLT, Nat.reduceLeDiff, Nat.zero_le, nI_add, nI_mul, nI_cl, qin_eq, qofI, qlg_0, qlg_s, qls_i0, qls_r0, qls_l0, qls_1, qls_2, qkl_i, qkl_r, qkl_l, qkl_n, qIsI_i, qIsL_l, qIsR_r, qint_i, qil_i, qil_r, qil_l, qf4_0, qf4_1, qf4_2, qf4_3, qf2_0, qf2_1, qcs_n, qcs_i, qcs_r, qcs_l, qst_n, qst_c, qJ_0, qJ_st, qJ_go, qfl_I, qfl_Z, qfl_L, qfl_R, qrI_i, qrL_l, qrV_v, qRcv_0, qRcv_s, eq_self, true_and, and_true, true_or, or_true, false_and, and_false, false_or, or_false, ite_true, if_true, if_false, Bool.true_or, Bool.false_or, Bool.or_false, beq_self_eq_true, Bool.false_eq_true, bX12_night_0, bX12_night_18, bX12_night_23, bX12_night_45, bX12_night_46, bX12_night_53, bX12_night_56, bX12_night_79, bX12_night_83, bX12_night_118, bX12_night_138, bX12_night_146, bX12_night_152, bX12_night_158, bX12_night_164, bX12_night_188, kX12_night_0, kX12_night_18, kX12_night_23, kX12_night_45, kX12_night_46, kX12_night_53, kX12_night_56, kX12_night_79, kX12_night_83, kX12_night_118, kX12_night_138, kX12_night_146, kX12_night_152, kX12_night_158, kX12_night_164, kX12_night_188, qK_139, qR_139_0, qK_140, qR_139_1, qK_141, qR_139_5, qK_142, qR_139_6, qK_143, qR_139_7, qK_144, qR_139_8, qK_145, qR_139_9, qK_146, qR_139_21, qK_147, qR_139_25, qK_148, qR_139_30, qK_149, qR_139_31, qK_150, qR_139_33, qK_151, qR_139_34, qK_152, qR_139_35, qK_153, qR_139_36, qK_154, qR_139_39, qK_155, qR_139_40, qK_156, qR_139_41, qK_157]
    refine ⟨fun _ => K σ1 _ f1 (fun j hj => by rw [a1 j hj, if_pos (Nat.zero_le _)]), fun h => absurd (by decide) h⟩
  | succ t ih =>
    intro ht σ1 x hx f1 a1
    subst hx
    rw [if_neg (by omega), Nat.add_sub_cancel]
    have h1 : zM σ1 0 C := h.keep hw fun j hj => f1.1 _ _ (fun h => h)
    refine qV.go 30 [83, 152] ok_350 ?_
    simp only [qW_nop, qW_iconst, qW_bipush, qW_ldc2, qW_lconst, qW_iloadn, qW_iload, qW_lloadn, qW_lload, qW_aloadn, qW_istore, qW_lstoren, qW_lstore, qW_iinc, qW_iincm, qW_isub, qW_ladd, qW_lmul, qW_i2l, qW_ifne, qW_iflt, qW_icge, qW_icgt, qW_goto, qW_getf, qW_iald, qW_lald, qW_last, qW_cs3_0, qW_cv2_0, qW_cv3_0, qW_iret1, Nat.reduceAdd, Nat.reduceMul, Nat.reduceBEq, Nat.reduceEqDiff, Nat.reduceLT, Nat.reduceLeDiff, Nat.zero_le, nI_add, nI_mul, nI_cl, qin_eq, qofI, qlg_0, qlg_s, qls_i0, qls_r0, qls_l0, qls_1, qls_2, qkl_i, qkl_r, qkl_l, qkl_n, qIsI_i, qIsL_l, qIsR_r, qint_i, qil_i, qil_r, qil_l, qf4_0, qf4_1, qf4_2, qf4_3, qf2_0, qf2_1, qcs_n, qcs_i, qcs_r, qcs_l, qst_n, qst_c, qJ_0, qJ_st, qJ_go, qfl_I, qfl_Z, qfl_L, qfl_R, qrI_i, qrL_l, qrV_v, qRcv_0, qRcv_s, eq_self, true_and, and_true, true_or, or_true, false_and, and_false, false_or, or_false, ite_true, if_true, if_false, Bool.true_or, Bool.false_or, Bool.or_false, beq_self_eq_true, Bool.false_eq_true, bX12_night_0, bX12_night_18, bX12_night_23, bX12_night_45, bX12_night_46, bX12_night_53, bX12_night_56, bX12_night_79, bX12_night_83, bX12_night_118, bX12_night_138, bX12_night_146, bX12_night_152, bX12_night_158, bX12_night_164, bX12_night_188, kX12_night_0, kX12_night_18, kX12_night_23, kX12_night_45, kX12_night_46, kX12_night_53, kX12_night_56, kX12_night_79, kX12_night_83, kX12_night_118, kX12_night_138, kX12_night_146, kX12_night_152, kX12_night_158, kX12_night_164, kX12_night_188, qK_139, qR_139_0, qK_140, qR_139_1, qK_141, qR_139_5, qK_142, qR_139_6, qK_143, qR_139_7, qK_144, qR_139_8, qK_145, qR_139_9, qK_146, qR_139_21, qK_147, qR_139_25, qK_148, qR_139_30, qK_149, qR_139_31, qK_150, qR_139_33, qK_151, qR_139_34, qK_152, qR_139_35, qK_153, qR_139_36, qK_154, qR_139_39, qK_155, qR_139_40, qK_156, qR_139_41, qK_157]
    rw [zM_s h1 4 (by decide)]
    simp (disch := omega) only [nI_leI, nI_ltI, nI_eq, nI_cl, qin_eq, nI_add, nI_mul, qb_z, qb_t, qb_f, nI_ne0', Nat.reduceAdd, Bool.false_eq_true, if_false, if_true, true_and, and_true, Nat.reduceEqDiff, not_true_eq_false, not_false_eq_true, false_implies, true_implies, ite_true, ite_false]
    refine ⟨fun h2 => ?_, fun _ => ?_⟩
    · rw [qlt0, nI_t (by omega)] at h2
      omega
    have e0 : σ1.2 154 t = lN (zni (C 0 4) k t) := by rw [a1 t (by omega), if_neg (by omega)]
    have fin : ∀ v, v = lN (zni (C 0 4) (k + 1) t) → ∀ x, x = (if t = 0 then iI (-1) else nI (t - 1)) → qV 350 4 Q 83 [some (qr 139), some (qi (nI n)), some (ql A), none, some (qi x4), some (qi x), none] [] (qwl σ1 154 t v) := by
      intro v hv x hx
      refine ih (by omega) _ x hx (f1.tr (zG.wl rfl)) (fun j hj => ?_)
      rw [qwl_2]
      by_cases e : j = t
      · subst e
        rw [if_pos ⟨rfl, rfl⟩, if_pos (Nat.le_refl _), hv]
      · rw [if_neg (fun h => e h.2), a1 j hj]
        by_cases e2 : t ≤ j
        · rw [if_pos e2, if_pos (by omega)]
        · rw [if_neg e2, if_neg (by omega)]
    rw [e0]
    refine ⟨fun h2 => ?_, fun h2 => ?_⟩
    · obtain ⟨u, rfl⟩ : ∃ u, t = u + 1 := ⟨t - 1, by omega⟩
      rw [nI_sub (by omega), Nat.add_sub_cancel, ← nI_add u 1, Int32.add_assoc, show nI 1 + iI (-1) = 0 by decide, Int32.add_zero]
      rw [nI_c (by omega), a1 u (by omega), if_neg (by omega), nI_l (by omega), nI_sub wo, nI_l (by omega), lN_mul, lN_mul, lN_add]
      refine ⟨qin_n (by omega) (by decide), fin _ ?_ _ ?_⟩
      · rw [zni_s, if_neg (by omega), Nat.add_sub_cancel]
      · rw [if_neg (by omega), Nat.add_sub_cancel]
    · subst h2
      rw [nI_l (by omega), lN_mul, lN_add]
      refine fin _ ?_ _ ?_
      · rw [zni_s, if_pos rfl]
      · rw [if_pos rfl]
        decide
set_option maxRecDepth 20000 in
theorem night_2 {σ : qSg} {C : zC} (h : zM σ 0 C) (hw : zW C) {n : Nat} (hn : n ≤ 10) {σ0 : qSg} (f0 : zG (fun _ _ => False) zRn σ σ0) (ha0 : zNa C 0 σ0) :
    qV 350 4 (zNq C n σ) 56 [some (qr 139), some (qi (nI n)), some (ql (lN 1)), none, some (qi (nI 0)), none, none] [] σ0 := by
  obtain ⟨wb, wq, ww1, ww2, wh1, wh2, wo, wm, wB, wQ⟩ := id hw
  refine qdown (n := C 0 1) (P := fun q => ∀ σ1 (l5 : Option qPV), zG (fun _ _ => False) zRn σ σ1 → zNa C (zcount (zOpen C) q) σ1 → qV 350 4 (zNq C n σ) 56 [some (qr 139), some (qi (nI n)), some (ql (lN (16 ^ zcount (zOpen C) q))), none, some (qi (nI q)), l5, none] [] σ1) (fun q hq ih => ?_) 0 (Nat.zero_le _) σ0 none f0 ha0
  intro σ1 l5 f1 a1
  have h1 : zM σ1 0 C := h.keep hw fun j hj => f1.1 _ _ (fun h => h)
  refine qV.go 30 [56, 83, 164, 152] ok_350 ?_
  simp only [qW_nop, qW_iconst, qW_bipush, qW_ldc2, qW_lconst, qW_iloadn, qW_iload, qW_lloadn, qW_lload, qW_aloadn, qW_istore, qW_lstoren, qW_lstore, qW_iinc, qW_iincm, qW_isub, qW_ladd, qW_lmul, qW_i2l, qW_ifne, qW_iflt, qW_icge, qW_icgt, qW_goto, qW_getf, qW_iald, qW_lald, qW_last, qW_cs3_0, qW_cv2_0, qW_cv3_0, qW_iret1, Nat.reduceAdd, Nat.reduceMul, Nat.reduceBEq, Nat.reduceEqDiff, Nat.reduceLT, Nat.reduceLeDiff, Nat.zero_le, nI_add, nI_mul, nI_cl, qin_eq, qofI, qlg_0, qlg_s, qls_i0, qls_r0, qls_l0, qls_1, qls_2, qkl_i, qkl_r, qkl_l, qkl_n, qIsI_i, qIsL_l, qIsR_r, qint_i, qil_i, qil_r, qil_l, qf4_0, qf4_1, qf4_2, qf4_3, qf2_0, qf2_1, qcs_n, qcs_i, qcs_r, qcs_l, qst_n, qst_c, qJ_0, qJ_st, qJ_go, qfl_I, qfl_Z, qfl_L, qfl_R, qrI_i, qrL_l, qrV_v, qRcv_0, qRcv_s, eq_self, true_and, and_true, true_or, or_true, false_and, and_false, false_or, or_false, ite_true, if_true, if_false, Bool.true_or, Bool.false_or, Bool.or_false, beq_self_eq_true, Bool.false_eq_true, bX12_night_0, bX12_night_18, bX12_night_23, bX12_night_45, bX12_night_46, bX12_night_53, bX12_night_56, bX12_night_79, bX12_night_83, bX12_night_118, bX12_night_138, bX12_night_146, bX12_night_152, bX12_night_158, bX12_night_164, bX12_night_188, kX12_night_0, kX12_night_18, kX12_night_23, kX12_night_45, kX12_night_46, kX12_night_53, kX12_night_56, kX12_night_79, kX12_night_83, kX12_night_118, kX12_night_138, kX12_night_146, kX12_night_152, kX12_night_158, kX12_night_164, kX12_night_188, qK_139, qR_139_0, qK_140, qR_139_1, qK_141, qR_139_5, qK_142, qR_139_6, qK_143, qR_139_7, qK_144, qR_139_8, qK_145, qR_139_9, qK_146, qR_139_21, qK_147, qR_139_25, qK_148, qR_139_30, qK_149, qR_139_31, qK_150, qR_139_33, qK_151, qR_139_34, qK_152, qR_139_35, qK_153, qR_139_36, qK_154, qR_139_39, qK_155, qR_139_40, qK_156, qR_139_41, qK_157]
  rw [zM_s h1 1 (by decide)]
  simp (disch := omega) only [nI_leI, nI_ltI, nI_eq, nI_cl, qin_eq, nI_add, nI_mul, qb_z, qb_t, qb_f, nI_ne0', Nat.reduceAdd, Bool.false_eq_true, if_false, if_true, true_and, and_true, Nat.reduceEqDiff, not_true_eq_false, not_false_eq_true, false_implies, true_implies, ite_true, ite_false]
  refine ⟨fun h2 => ?_, fun h2 => ?_⟩
  · obtain rfl : q = C 0 1 := by omega
    exact night_4 hw hn f1 a1
  · refine qBI.fn (m_isOpen h1 hw (by omega)) (by decide) ?_
    cases e : zOpen C q with
    | false =>
      refine ⟨fun h => absurd nI_0 h, fun _ => ?_⟩
      have e1 : zcount (zOpen C) (q + 1) = zcount (zOpen C) q := by rw [zcount, e]; rfl
      refine qV.go 30 [56] ok_350 ?_
      simp only [qW_nop, qW_iconst, qW_bipush, qW_ldc2, qW_lconst, qW_iloadn, qW_iload, qW_lloadn, qW_lload, qW_aloadn, qW_istore, qW_lstoren, qW_lstore, qW_iinc, qW_iincm, qW_isub, qW_ladd, qW_lmul, qW_i2l, qW_ifne, qW_iflt, qW_icge, qW_icgt, qW_goto, qW_getf, qW_iald, qW_lald, qW_last, qW_cs3_0, qW_cv2_0, qW_cv3_0, qW_iret1, Nat.reduceAdd, Nat.reduceMul, Nat.reduceBEq, Nat.reduceEqDiff, Nat.reduceLT, Nat.reduceLeDiff, Nat.zero_le, nI_add, nI_mul, nI_cl, qin_eq, qofI, qlg_0, qlg_s, qls_i0, qls_r0, qls_l0, qls_1, qls_2, qkl_i, qkl_r, qkl_l, qkl_n, qIsI_i, qIsL_l, qIsR_r, qint_i, qil_i, qil_r, qil_l, qf4_0, qf4_1, qf4_2, qf4_3, qf2_0, qf2_1, qcs_n, qcs_i, qcs_r, qcs_l, qst_n, qst_c, qJ_0, qJ_st, qJ_go, qfl_I, qfl_Z, qfl_L, qfl_R, qrI_i, qrL_l, qrV_v, qRcv_0, qRcv_s, eq_self, true_and, and_true, true_or, or_true, false_and, and_false, false_or, or_false, ite_true, if_true, if_false, Bool.true_or, Bool.false_or, Bool.or_false, beq_self_eq_true, Bool.false_eq_true, bX12_night_0, bX12_night_18, bX12_night_23, bX12_night_45, bX12_night_46, bX12_night_53, bX12_night_56, bX12_night_79, bX12_night_83, bX12_night_118, bX12_night_138, bX12_night_146, bX12_night_152, bX12_night_158, bX12_night_164, bX12_night_188, kX12_night_0, kX12_night_18, kX12_night_23, kX12_night_45, kX12_night_46, kX12_night_53, kX12_night_56, kX12_night_79, kX12_night_83, kX12_night_118, kX12_night_138, kX12_night_146, kX12_night_152, kX12_night_158, kX12_night_164, kX12_night_188, qK_139, qR_139_0, qK_140, qR_139_1, qK_141, qR_139_5, qK_142, qR_139_6, qK_143, qR_139_7, qK_144, qR_139_8, qK_145, qR_139_9, qK_146, qR_139_21, qK_147, qR_139_25, qK_148, qR_139_30, qK_149, qR_139_31, qK_150, qR_139_33, qK_151, qR_139_34, qK_152, qR_139_35, qK_153, qR_139_36, qK_154, qR_139_39, qK_155, qR_139_40, qK_156, qR_139_41, qK_157]
      rw [← e1]
      exact ih (by omega) σ1 l5 f1 (by rw [e1]; exact a1)
    | true =>
      refine ⟨fun _ => ?_, fun h => absurd h (by decide)⟩
      have e1 : zcount (zOpen C) (q + 1) = zcount (zOpen C) q + 1 := by rw [zcount, e]; rfl
      refine night_3 h1 hw _ _ _ (k := zcount (zOpen C) q) (fun σ2 l5 f2 a2 => ?_) 11 (by decide) σ1 _ rfl zG.rf (fun j hj => by rw [if_neg (by omega)]; exact a1 j hj)
      refine qV.go 30 [56] ok_350 ?_
      simp only [qW_nop, qW_iconst, qW_bipush, qW_ldc2, qW_lconst, qW_iloadn, qW_iload, qW_lloadn, qW_lload, qW_aloadn, qW_istore, qW_lstoren, qW_lstore, qW_iinc, qW_iincm, qW_isub, qW_ladd, qW_lmul, qW_i2l, qW_ifne, qW_iflt, qW_icge, qW_icgt, qW_goto, qW_getf, qW_iald, qW_lald, qW_last, qW_cs3_0, qW_cv2_0, qW_cv3_0, qW_iret1, Nat.reduceAdd, Nat.reduceMul, Nat.reduceBEq, Nat.reduceEqDiff, Nat.reduceLT, Nat.reduceLeDiff, Nat.zero_le, nI_add, nI_mul, nI_cl, qin_eq, qofI, qlg_0, qlg_s, qls_i0, qls_r0, qls_l0, qls_1, qls_2, qkl_i, qkl_r, qkl_l, qkl_n, qIsI_i, qIsL_l, qIsR_r, qint_i, qil_i, qil_r, qil_l, qf4_0, qf4_1, qf4_2, qf4_3, qf2_0, qf2_1, qcs_n, qcs_i, qcs_r, qcs_l, qst_n, qst_c, qJ_0, qJ_st, qJ_go, qfl_I, qfl_Z, qfl_L, qfl_R, qrI_i, qrL_l, qrV_v, qRcv_0, qRcv_s, eq_self, true_and, and_true, true_or, or_true, false_and, and_false, false_or, or_false, ite_true, if_true, if_false, Bool.true_or, Bool.false_or, Bool.or_false, beq_self_eq_true, Bool.false_eq_true, bX12_night_0, bX12_night_18, bX12_night_23, bX12_night_45, bX12_night_46, bX12_night_53, bX12_night_56, bX12_night_79, bX12_night_83, bX12_night_118, bX12_night_138, bX12_night_146, bX12_night_152, bX12_night_158, bX12_night_164, bX12_night_188, kX12_night_0, kX12_night_18, kX12_night_23, kX12_night_45, kX12_night_46, kX12_night_53, kX12_night_56, kX12_night_79, kX12_night_83, kX12_night_118, kX12_night_138, kX12_night_146, kX12_night_152, kX12_night_158, kX12_night_164, kX12_night_188, qK_139, qR_139_0, qK_140, qR_139_1, qK_141, qR_139_5, qK_142, qR_139_6, qK_143, qR_139_7, qK_144, qR_139_8, qK_145, qR_139_9, qK_146, qR_139_21, qK_147, qR_139_25, qK_148, qR_139_30, qK_149, qR_139_31, qK_150, qR_139_33, qK_151, qR_139_34, qK_152, qR_139_35, qK_153, qR_139_36, qK_154, qR_139_39, qK_155, qR_139_40, qK_156, qR_139_41, qK_157]
      rw [lN_mul, ← Nat.pow_succ, ← Nat.add_one, ← e1]
      exact ih (by omega) σ2 l5 (f1.tr f2) (by rw [e1]; exact a2)
set_option maxRecDepth 20000 in
theorem m_night {σ : qSg} {C : zC} (h : zM σ 0 C) (hw : zW C) (k : Int32) : qCI 4 350 [qr 139, qi k] σ (fun r σ' => if zih k 0 10 then (∃ σ1, r = nI 1 ∧ σ' = ztell σ1 (znsum (C 0 4) (zcount (zOpen C) (C 0 1)) (k.toInt.toNat + 1)) (16 ^ zcount (zOpen C) (C 0 1)) ∧ zG (fun _ _ => False) zRn σ σ1) else r = qb false ∧ σ' = qwi σ 139 2 (nI 1)) := by
  obtain ⟨wb, wq, ww1, ww2, wh1, wh2, wo, wm, wB, wQ⟩ := id hw
  refine qCI.of [some (qr 139), some (qi k), none, none, none, none, none] ok_350 (Nat.le_of_ble_eq_true rfl) rfl ?_
  refine qV.go 30 [18] ok_350 ?_
  simp only [qW_nop, qW_iconst, qW_bipush, qW_ldc2, qW_lconst, qW_iloadn, qW_iload, qW_lloadn, qW_lload, qW_aloadn, qW_istore, qW_lstoren, qW_lstore, qW_iinc, qW_iincm, qW_isub, qW_ladd, qW_lmul, qW_i2l, qW_ifne, qW_iflt, qW_icge, qW_icgt, qW_goto, qW_getf, qW_iald, qW_lald, qW_last, qW_cs3_0, qW_cv2_0, qW_cv3_0, qW_iret1, Nat.reduceAdd, Nat.reduceMul, Nat.reduceBEq, Nat.reduceEqDiff, Nat.reduceLT, Nat.reduceLeDiff, Nat.zero_le, nI_add, nI_mul, nI_cl, qin_eq, qofI, qlg_0, qlg_s, qls_i0, qls_r0, qls_l0, qls_1, qls_2, qkl_i, qkl_r, qkl_l, qkl_n, qIsI_i, qIsL_l, qIsR_r, qint_i, qil_i, qil_r, qil_l, qf4_0, qf4_1, qf4_2, qf4_3, qf2_0, qf2_1, qcs_n, qcs_i, qcs_r, qcs_l, qst_n, qst_c, qJ_0, qJ_st, qJ_go, qfl_I, qfl_Z, qfl_L, qfl_R, qrI_i, qrL_l, qrV_v, qRcv_0, qRcv_s, eq_self, true_and, and_true, true_or, or_true, false_and, and_false, false_or, or_false, ite_true, if_true, if_false, Bool.true_or, Bool.false_or, Bool.or_false, beq_self_eq_true, Bool.false_eq_true, bX12_night_0, bX12_night_18, bX12_night_23, bX12_night_45, bX12_night_46, bX12_night_53, bX12_night_56, bX12_night_79, bX12_night_83, bX12_night_118, bX12_night_138, bX12_night_146, bX12_night_152, bX12_night_158, bX12_night_164, bX12_night_188, kX12_night_0, kX12_night_18, kX12_night_23, kX12_night_45, kX12_night_46, kX12_night_53, kX12_night_56, kX12_night_79, kX12_night_83, kX12_night_118, kX12_night_138, kX12_night_146, kX12_night_152, kX12_night_158, kX12_night_164, kX12_night_188, qK_139, qR_139_0, qK_140, qR_139_1, qK_141, qR_139_5, qK_142, qR_139_6, qK_143, qR_139_7, qK_144, qR_139_8, qK_145, qR_139_9, qK_146, qR_139_21, qK_147, qR_139_25, qK_148, qR_139_30, qK_149, qR_139_31, qK_150, qR_139_33, qK_151, qR_139_34, qK_152, qR_139_35, qK_153, qR_139_36, qK_154, qR_139_39, qK_155, qR_139_40, qK_156, qR_139_41, qK_157]
  refine qBI.fn (m_isFrom' σ k.toInt64 (lo := 0) (hi := 10) (by decide) (by decide)) (by decide) ?_
  rw [zlh_i]
  cases ek : zih k 0 10 with
  | false =>
    refine ⟨fun h => absurd nI_0 h, fun _ => qBI.of (m_is _ 1 (by decide)) (by decide) (fun r σ1 h1 => ?_)⟩
    obtain ⟨rfl, rfl⟩ := h1
    exact ⟨Or.inl rfl, by simp⟩
  | true =>
    refine ⟨fun _ => ?_, fun h => absurd h (by decide)⟩
    simp only [if_true]
    obtain ⟨n, -, hn, rfl⟩ := zih_nI ek
    rw [nI_t (by omega), Int.toNat_natCast]
    show qV 350 4 (zNq C n σ) 18 _ _ _
    refine qV.go 30 [23] ok_350 ?_
    simp only [qW_nop, qW_iconst, qW_bipush, qW_ldc2, qW_lconst, qW_iloadn, qW_iload, qW_lloadn, qW_lload, qW_aloadn, qW_istore, qW_lstoren, qW_lstore, qW_iinc, qW_iincm, qW_isub, qW_ladd, qW_lmul, qW_i2l, qW_ifne, qW_iflt, qW_icge, qW_icgt, qW_goto, qW_getf, qW_iald, qW_lald, qW_last, qW_cs3_0, qW_cv2_0, qW_cv3_0, qW_iret1, Nat.reduceAdd, Nat.reduceMul, Nat.reduceBEq, Nat.reduceEqDiff, Nat.reduceLT, Nat.reduceLeDiff, Nat.zero_le, nI_add, nI_mul, nI_cl, qin_eq, qofI, qlg_0, qlg_s, qls_i0, qls_r0, qls_l0, qls_1, qls_2, qkl_i, qkl_r, qkl_l, qkl_n, qIsI_i, qIsL_l, qIsR_r, qint_i, qil_i, qil_r, qil_l, qf4_0, qf4_1, qf4_2, qf4_3, qf2_0, qf2_1, qcs_n, qcs_i, qcs_r, qcs_l, qst_n, qst_c, qJ_0, qJ_st, qJ_go, qfl_I, qfl_Z, qfl_L, qfl_R, qrI_i, qrL_l, qrV_v, qRcv_0, qRcv_s, eq_self, true_and, and_true, true_or, or_true, false_and, and_false, false_or, or_false, ite_true, if_true, if_false, Bool.true_or, Bool.false_or, Bool.or_false, beq_self_eq_true, Bool.false_eq_true, bX12_night_0, bX12_night_18, bX12_night_23, bX12_night_45, bX12_night_46, bX12_night_53, bX12_night_56, bX12_night_79, bX12_night_83, bX12_night_118, bX12_night_138, bX12_night_146, bX12_night_152, bX12_night_158, bX12_night_164, bX12_night_188, kX12_night_0, kX12_night_18, kX12_night_23, kX12_night_45, kX12_night_46, kX12_night_53, kX12_night_56, kX12_night_79, kX12_night_83, kX12_night_118, kX12_night_138, kX12_night_146, kX12_night_152, kX12_night_158, kX12_night_164, kX12_night_188, qK_139, qR_139_0, qK_140, qR_139_1, qK_141, qR_139_5, qK_142, qR_139_6, qK_143, qR_139_7, qK_144, qR_139_8, qK_145, qR_139_9, qK_146, qR_139_21, qK_147, qR_139_25, qK_148, qR_139_30, qK_149, qR_139_31, qK_150, qR_139_33, qK_151, qR_139_34, qK_152, qR_139_35, qK_153, qR_139_36, qK_154, qR_139_39, qK_155, qR_139_40, qK_156, qR_139_41, qK_157]
    refine qdown (n := 11) (P := fun i => ∀ σ1, zG (fun _ _ => False) zRn σ σ1 → (∀ j, j < i → σ1.2 154 j = lN (zni (C 0 4) 0 j)) → qV 350 4 (zNq C n σ) 23 [some (qr 139), some (qi (nI n)), some (ql (lN 1)), none, some (qi (nI i)), none, none] [] σ1) (fun i hi ih => ?_) 0 (Nat.zero_le _) σ zG.rf (fun j hj => absurd hj (by omega))
    intro σ1 f1 a1
    refine qV.go 30 [23, 56] ok_350 ?_
    simp only [qW_nop, qW_iconst, qW_bipush, qW_ldc2, qW_lconst, qW_iloadn, qW_iload, qW_lloadn, qW_lload, qW_aloadn, qW_istore, qW_lstoren, qW_lstore, qW_iinc, qW_iincm, qW_isub, qW_ladd, qW_lmul, qW_i2l, qW_ifne, qW_iflt, qW_icge, qW_icgt, qW_goto, qW_getf, qW_iald, qW_lald, qW_last, qW_cs3_0, qW_cv2_0, qW_cv3_0, qW_iret1, Nat.reduceAdd, Nat.reduceMul, Nat.reduceBEq, Nat.reduceEqDiff, Nat.reduceLT, Nat.reduceLeDiff, Nat.zero_le, nI_add, nI_mul, nI_cl, qin_eq, qofI, qlg_0, qlg_s, qls_i0, qls_r0, qls_l0, qls_1, qls_2, qkl_i, qkl_r, qkl_l, qkl_n, qIsI_i, qIsL_l, qIsR_r, qint_i, qil_i, qil_r, qil_l, qf4_0, qf4_1, qf4_2, qf4_3, qf2_0, qf2_1, qcs_n, qcs_i, qcs_r, qcs_l, qst_n, qst_c, qJ_0, qJ_st, qJ_go, qfl_I, qfl_Z, qfl_L, qfl_R, qrI_i, qrL_l, qrV_v, qRcv_0, qRcv_s, eq_self, true_and, and_true, true_or, or_true, false_and, and_false, false_or, or_false, ite_true, if_true, if_false, Bool.true_or, Bool.false_or, Bool.or_false, beq_self_eq_true, Bool.false_eq_true, bX12_night_0, bX12_night_18, bX12_night_23, bX12_night_45, bX12_night_46, bX12_night_53, bX12_night_56, bX12_night_79, bX12_night_83, bX12_night_118, bX12_night_138, bX12_night_146, bX12_night_152, bX12_night_158, bX12_night_164, bX12_night_188, kX12_night_0, kX12_night_18, kX12_night_23, kX12_night_45, kX12_night_46, kX12_night_53, kX12_night_56, kX12_night_79, kX12_night_83, kX12_night_118, kX12_night_138, kX12_night_146, kX12_night_152, kX12_night_158, kX12_night_164, kX12_night_188, qK_139, qR_139_0, qK_140, qR_139_1, qK_141, qR_139_5, qK_142, qR_139_6, qK_143, qR_139_7, qK_144, qR_139_8, qK_145, qR_139_9, qK_146, qR_139_21, qK_147, qR_139_25, qK_148, qR_139_30, qK_149, qR_139_31, qK_150, qR_139_33, qK_151, qR_139_34, qK_152, qR_139_35, qK_153, qR_139_36, qK_154, qR_139_39, qK_155, qR_139_40, qK_156, qR_139_41, qK_157]
    simp (disch := omega) only [nI_leI, nI_ltI, nI_eq, nI_cl, qin_eq, nI_add, nI_mul, qb_z, qb_t, qb_f, nI_ne0', Nat.reduceAdd, Bool.false_eq_true, if_false, if_true, true_and, and_true, Nat.reduceEqDiff, not_true_eq_false, not_false_eq_true, false_implies, true_implies, ite_true, ite_false]
    refine ⟨fun h1 => ?_, fun h1 => ?_⟩
    · obtain rfl : i = 11 := by omega
      exact night_2 h hw hn f1 (fun j hj => a1 j hj)
    · refine ⟨fun h2 => ?_, fun h2 => ?_⟩
      · refine ⟨qin_n (by omega) (by decide), ih (by omega) _ (f1.tr (zG.wl rfl)) (fun j hj => ?_)⟩
        rw [qwl_2]
        by_cases e : j = i
        · subst e
          rw [if_pos ⟨rfl, rfl⟩, zni, if_neg h2]
        · rw [if_neg (fun h => e h.2), a1 j (by omega)]
      · refine ⟨qin_n (by omega) (by decide), ih (by omega) _ (f1.tr (zG.wl rfl)) (fun j hj => ?_)⟩
        rw [qwl_2]
        by_cases e : j = i
        · subst e
          rw [if_pos ⟨rfl, rfl⟩, zni, if_pos h2]
        · rw [if_neg (fun h => e h.2), a1 j (by omega)]
set_option maxRecDepth 20000 in
theorem m_wakes {σ : qSg} {C : zC} (h : zM σ 0 C) (hw : zW C) (b : Int32) : qCI 5 351 [qr 139, qi b] σ (fun r σ' => if zrg b (C 0 0) then (r = qb true ∧ σ' = ztell σ (C 0 4 ^ zpop (zof C b.toInt.toNat)) (16 ^ zpop (zof C b.toInt.toNat))) else r = qb false ∧ σ' = qwi σ 139 2 (nI 1)) := by
  obtain ⟨wb, wq, ww1, ww2, wh1, wh2, wo, wm, wB, wQ⟩ := id hw
  refine qCI.of [some (qr 139), some (qi b), none, none, none, none, none] ok_351 (Nat.le_of_ble_eq_true rfl) rfl ?_
  refine qV.go 30 [15] ok_351 ?_
  simp only [qW_nop, qW_iconst, qW_ldc2, qW_lconst, qW_iloadn, qW_iload, qW_lloadn, qW_lload, qW_aloadn, qW_istore, qW_lstoren, qW_lstore, qW_iincm, qW_lmul, qW_i2l, qW_ifne, qW_ifle, qW_goto, qW_getf, qW_iald, qW_cs1_0, qW_cv2_0, qW_cv3_0, qW_iret1, Nat.reduceAdd, Nat.reduceMul, Nat.reduceBEq, Nat.reduceEqDiff, Nat.reduceLT, Nat.reduceLeDiff, Nat.zero_le, nI_add, nI_mul, nI_cl, qin_eq, qofI, qlg_0, qlg_s, qls_i0, qls_r0, qls_l0, qls_1, qls_2, qkl_i, qkl_r, qkl_l, qkl_n, qIsI_i, qIsL_l, qIsR_r, qint_i, qil_i, qil_r, qil_l, qf4_0, qf4_1, qf4_2, qf4_3, qf2_0, qf2_1, qcs_n, qcs_i, qcs_r, qcs_l, qst_n, qst_c, qJ_0, qJ_st, qJ_go, qfl_I, qfl_Z, qfl_L, qfl_R, qrI_i, qrL_l, qrV_v, qRcv_0, qRcv_s, eq_self, true_and, and_true, true_or, or_true, false_and, and_false, false_or, or_false, ite_true, if_true, if_false, Bool.true_or, Bool.false_or, Bool.or_false, beq_self_eq_true, Bool.false_eq_true, bX12_wakes_0, bX12_wakes_15, bX12_wakes_30, bX12_wakes_59, kX12_wakes_0, kX12_wakes_15, kX12_wakes_30, kX12_wakes_59, qK_139, qR_139_0, qK_140, qR_139_1, qK_141, qR_139_5, qK_142, qR_139_6, qK_143, qR_139_7, qK_144, qR_139_8, qK_145, qR_139_9, qK_146, qR_139_21, qK_147, qR_139_25, qK_148, qR_139_30, qK_149, qR_139_31, qK_150, qR_139_33, qK_151, qR_139_34, qK_152, qR_139_35, qK_153, qR_139_36, qK_154, qR_139_39, qK_155, qR_139_40, qK_156, qR_139_41, qK_157]
  refine qBI.fn (m_isBoy h hw b.toInt64) (by decide) ?_
  rw [zrl_i]
  cases ek : zrg b (C 0 0) with
  | false =>
    refine ⟨fun h => absurd nI_0 h, fun _ => qBI.of (m_is _ 1 (by decide)) (by decide) (fun r σ1 h1 => ?_)⟩
    obtain ⟨rfl, rfl⟩ := h1
    exact ⟨Or.inl rfl, by simp⟩
  | true =>
    refine ⟨fun _ => ?_, fun h => absurd h (by decide)⟩
    simp only [if_true]
    obtain ⟨n, hn, rfl⟩ := zrg_nI ek
    rw [nI_t (by omega), Int.toNat_natCast]
    refine qV.go 30 [30] ok_351 ?_
    simp only [qW_nop, qW_iconst, qW_ldc2, qW_lconst, qW_iloadn, qW_iload, qW_lloadn, qW_lload, qW_aloadn, qW_istore, qW_lstoren, qW_lstore, qW_iincm, qW_lmul, qW_i2l, qW_ifne, qW_ifle, qW_goto, qW_getf, qW_iald, qW_cs1_0, qW_cv2_0, qW_cv3_0, qW_iret1, Nat.reduceAdd, Nat.reduceMul, Nat.reduceBEq, Nat.reduceEqDiff, Nat.reduceLT, Nat.reduceLeDiff, Nat.zero_le, nI_add, nI_mul, nI_cl, qin_eq, qofI, qlg_0, qlg_s, qls_i0, qls_r0, qls_l0, qls_1, qls_2, qkl_i, qkl_r, qkl_l, qkl_n, qIsI_i, qIsL_l, qIsR_r, qint_i, qil_i, qil_r, qil_l, qf4_0, qf4_1, qf4_2, qf4_3, qf2_0, qf2_1, qcs_n, qcs_i, qcs_r, qcs_l, qst_n, qst_c, qJ_0, qJ_st, qJ_go, qfl_I, qfl_Z, qfl_L, qfl_R, qrI_i, qrL_l, qrV_v, qRcv_0, qRcv_s, eq_self, true_and, and_true, true_or, or_true, false_and, and_false, false_or, or_false, ite_true, if_true, if_false, Bool.true_or, Bool.false_or, Bool.or_false, beq_self_eq_true, Bool.false_eq_true, bX12_wakes_0, bX12_wakes_15, bX12_wakes_30, bX12_wakes_59, kX12_wakes_0, kX12_wakes_15, kX12_wakes_30, kX12_wakes_59, qK_139, qR_139_0, qK_140, qR_139_1, qK_141, qR_139_5, qK_142, qR_139_6, qK_143, qR_139_7, qK_144, qR_139_8, qK_145, qR_139_9, qK_146, qR_139_21, qK_147, qR_139_25, qK_148, qR_139_30, qK_149, qR_139_31, qK_150, qR_139_33, qK_151, qR_139_34, qK_152, qR_139_35, qK_153, qR_139_36, qK_154, qR_139_39, qK_155, qR_139_40, qK_156, qR_139_41, qK_157]
    refine qBI.fn (m_openOf h hw hn) (by decide) ?_
    have hl := zof_lt hw n
    refine qBI.fn (m_bits σ (by omega)) (by decide) ?_
    have hp : zpop (zof C n) ≤ 10 := zpop_le (k := 10) (by omega)
    generalize zpop (zof C n) = m at hp ⊢
    have hb1 : C 0 4 ^ m ≤ 16 ^ 10 := Nat.le_trans (Nat.pow_le_pow_left wo m) (Nat.pow_le_pow_right (by decide) hp)
    have hb2 : 16 ^ m ≤ 16 ^ 10 := Nat.pow_le_pow_right (by decide) hp
    have hb3 : 0 < 16 ^ m := Nat.pow_pos (by decide)
    have key : ∀ k A B, k ≤ 10 → A * C 0 4 ^ k = C 0 4 ^ m → B * 16 ^ k = 16 ^ m → qV 351 5 (.inl fun r σ' => r = nI 1 ∧ σ' = ztell σ (C 0 4 ^ m) (16 ^ m)) 30 [some (qr 139), some (qi (nI n)), some (ql (lN A)), none, some (ql (lN B)), none, some (qi (nI k))] [] σ := by
      intro k
      induction k with
      | zero =>
        intro A B hk hA hB
        rw [Nat.pow_zero, Nat.mul_one] at hA hB
        refine qV.go 30 [30] ok_351 ?_
        simp only [qW_nop, qW_iconst, qW_ldc2, qW_lconst, qW_iloadn, qW_iload, qW_lloadn, qW_lload, qW_aloadn, qW_istore, qW_lstoren, qW_lstore, qW_iincm, qW_lmul, qW_i2l, qW_ifne, qW_ifle, qW_goto, qW_getf, qW_iald, qW_cs1_0, qW_cv2_0, qW_cv3_0, qW_iret1, Nat.reduceAdd, Nat.reduceMul, Nat.reduceBEq, Nat.reduceEqDiff, Nat.reduceLT, Nat.reduceLeDiff, Nat.zero_le, nI_add, nI_mul, nI_cl, qin_eq, qofI, qlg_0, qlg_s, qls_i0, qls_r0, qls_l0, qls_1, qls_2, qkl_i, qkl_r, qkl_l, qkl_n, qIsI_i, qIsL_l, qIsR_r, qint_i, qil_i, qil_r, qil_l, qf4_0, qf4_1, qf4_2, qf4_3, qf2_0, qf2_1, qcs_n, qcs_i, qcs_r, qcs_l, qst_n, qst_c, qJ_0, qJ_st, qJ_go, qfl_I, qfl_Z, qfl_L, qfl_R, qrI_i, qrL_l, qrV_v, qRcv_0, qRcv_s, eq_self, true_and, and_true, true_or, or_true, false_and, and_false, false_or, or_false, ite_true, if_true, if_false, Bool.true_or, Bool.false_or, Bool.or_false, beq_self_eq_true, Bool.false_eq_true, bX12_wakes_0, bX12_wakes_15, bX12_wakes_30, bX12_wakes_59, kX12_wakes_0, kX12_wakes_15, kX12_wakes_30, kX12_wakes_59, qK_139, qR_139_0, qK_140, qR_139_1, qK_141, qR_139_5, qK_142, qR_139_6, qK_143, qR_139_7, qK_144, qR_139_8, qK_145, qR_139_9, qK_146, qR_139_21, qK_147, qR_139_25, qK_148, qR_139_30, qK_149, qR_139_31, qK_150, qR_139_33, qK_151, qR_139_34, qK_152, qR_139_35, qK_153, qR_139_36, qK_154, qR_139_39, qK_155, qR_139_40, qK_156, qR_139_41, qK_157]
        refine ⟨fun _ => ?_, fun h => absurd (by decide) h⟩
        rw [hA, hB]
        refine qBI.of (m_tellsBy σ (by omega) (by omega) hb3) (by decide) (fun r σ2 h2 => ?_)
        obtain ⟨rfl, rfl⟩ := h2
        exact ⟨Or.inr rfl, rfl, rfl⟩
      | succ k ih =>
        intro A B hk hA hB
        refine qV.go 30 [30] ok_351 ?_
        simp only [qW_nop, qW_iconst, qW_ldc2, qW_lconst, qW_iloadn, qW_iload, qW_lloadn, qW_lload, qW_aloadn, qW_istore, qW_lstoren, qW_lstore, qW_iincm, qW_lmul, qW_i2l, qW_ifne, qW_ifle, qW_goto, qW_getf, qW_iald, qW_cs1_0, qW_cv2_0, qW_cv3_0, qW_iret1, Nat.reduceAdd, Nat.reduceMul, Nat.reduceBEq, Nat.reduceEqDiff, Nat.reduceLT, Nat.reduceLeDiff, Nat.zero_le, nI_add, nI_mul, nI_cl, qin_eq, qofI, qlg_0, qlg_s, qls_i0, qls_r0, qls_l0, qls_1, qls_2, qkl_i, qkl_r, qkl_l, qkl_n, qIsI_i, qIsL_l, qIsR_r, qint_i, qil_i, qil_r, qil_l, qf4_0, qf4_1, qf4_2, qf4_3, qf2_0, qf2_1, qcs_n, qcs_i, qcs_r, qcs_l, qst_n, qst_c, qJ_0, qJ_st, qJ_go, qfl_I, qfl_Z, qfl_L, qfl_R, qrI_i, qrL_l, qrV_v, qRcv_0, qRcv_s, eq_self, true_and, and_true, true_or, or_true, false_and, and_false, false_or, or_false, ite_true, if_true, if_false, Bool.true_or, Bool.false_or, Bool.or_false, beq_self_eq_true, Bool.false_eq_true, bX12_wakes_0, bX12_wakes_15, bX12_wakes_30, bX12_wakes_59, kX12_wakes_0, kX12_wakes_15, kX12_wakes_30, kX12_wakes_59, qK_139, qR_139_0, qK_140, qR_139_1, qK_141, qR_139_5, qK_142, qR_139_6, qK_143, qR_139_7, qK_144, qR_139_8, qK_145, qR_139_9, qK_146, qR_139_21, qK_147, qR_139_25, qK_148, qR_139_30, qK_149, qR_139_31, qK_150, qR_139_33, qK_151, qR_139_34, qK_152, qR_139_35, qK_153, qR_139_36, qK_154, qR_139_39, qK_155, qR_139_40, qK_156, qR_139_41, qK_157]
        rw [zM_s h 4 (by decide)]
        refine ⟨fun h2 => ?_, fun _ => ?_⟩
        · rw [qle0, nI_t (by omega)] at h2
          omega
        · rw [nI_l (by omega), lN_mul, lN_mul, ← nI_add k 1, Int32.add_assoc, show nI 1 + iI (-1) = 0 by decide, Int32.add_zero]
          refine ih _ _ (by omega) ?_ ?_
          · rw [← hA, Nat.pow_succ, Nat.mul_assoc, Nat.mul_comm (C 0 4)]
          · rw [← hB, Nat.pow_succ, Nat.mul_assoc, Nat.mul_comm 16]
    exact key m 1 1 hp (by rw [Nat.one_mul]) (by rw [Nat.one_mul])
