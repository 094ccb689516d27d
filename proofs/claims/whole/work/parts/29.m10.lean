/-! the reference: whom to ask; games -/
def zcnt (F : Nat → Bool) (U : Nat → Nat) (p : Nat) : Nat := zcount (fun i => F p && F (i + 1) && decide (U p = U (i + 1))) 30
def zmx (F : Nat → Bool) (U : Nat → Nat) : Nat → Nat
  | 0 => 0
  | n + 1 => if zmx F U n < zcnt F U (n + 1) then zcnt F U (n + 1) else zmx F U n
theorem zmx_le (F : Nat → Bool) (U : Nat → Nat) : ∀ n, zmx F U n ≤ 30
  | 0 => by simp [zmx]
  | n + 1 => by
    have := zmx_le F U n
    have h2 := zcount_le (fun i => F (n + 1) && F (i + 1) && decide (U (n + 1) = U (i + 1))) 30
    simp only [zmx]
    split
    · exact h2
    · exact this
set_option maxRecDepth 20000 in
theorem m_mostAlike {σ : qSg} {F : Nat → Bool} {U : Nat → Nat} {b : Nat} (hb : b < 8) (hF : ∀ p, 1 ≤ p → p ≤ 30 → σ.1 150 p = qb (F p)) (hU : ∀ p, 1 ≤ p → p ≤ 30 → σ.1 149 (8 * p + b) = nI (U p)) (hU2 : ∀ p, U p ≤ 1000) :
    qFI 1 338 [qr 139, qi (nI b)] σ (nI (zmx F U 30)) := by
  refine qCI.of [some (qr 139), some (qi (nI b)), none, none, none, none] ok_338 (Nat.le_of_ble_eq_true rfl) rfl ?_
  refine qV.go 30 [4] ok_338 ?_
  simp only [qW_nop, qW_iconst, qW_bipush, qW_iloadn, qW_iload, qW_aloadn, qW_istoren, qW_istore, qW_iinc, qW_iadd, qW_imul, qW_ifeq, qW_icne, qW_icgt, qW_goto, qW_getf, qW_iald, qW_bald, qW_mmax, qW_iret0, Nat.reduceAdd, Nat.reduceMul, Nat.reduceBEq, Nat.reduceEqDiff, Nat.reduceLT, Nat.reduceLeDiff, Nat.zero_le, nI_add, nI_mul, nI_cl, qin_eq, qofI, qlg_0, qlg_s, qls_i0, qls_r0, qls_l0, qls_1, qls_2, qkl_i, qkl_r, qkl_l, qkl_n, qIsI_i, qIsL_l, qIsR_r, qint_i, qil_i, qil_r, qil_l, qf4_0, qf4_1, qf4_2, qf4_3, qf2_0, qf2_1, qcs_n, qcs_i, qcs_r, qcs_l, qst_n, qst_c, qJ_0, qJ_st, qJ_go, qfl_I, qfl_Z, qfl_L, qfl_R, qrI_i, qrL_l, qrV_v, qRcv_0, qRcv_s, eq_self, true_and, and_true, true_or, or_true, false_and, and_false, false_or, or_false, ite_true, if_true, if_false, Bool.true_or, Bool.false_or, Bool.or_false, beq_self_eq_true, Bool.false_eq_true, bX12_mostAlike_0, bX12_mostAlike_4, bX12_mostAlike_16, bX12_mostAlike_74, bX12_mostAlike_75, bX12_mostAlike_84, bX12_mostAlike_97, kX12_mostAlike_0, kX12_mostAlike_4, kX12_mostAlike_16, kX12_mostAlike_74, kX12_mostAlike_75, kX12_mostAlike_84, kX12_mostAlike_97, qK_139, qR_139_0, qK_140, qR_139_1, qK_141, qR_139_5, qK_142, qR_139_6, qK_143, qR_139_7, qK_144, qR_139_8, qK_145, qR_139_9, qK_146, qR_139_21, qK_147, qR_139_25, qK_148, qR_139_30, qK_149, qR_139_31, qK_150, qR_139_33, qK_151, qR_139_34, qK_152, qR_139_35, qK_153, qR_139_36, qK_154, qR_139_39, qK_155, qR_139_40, qK_156, qR_139_41, qK_157]
  refine qdown (n := 30) (P := fun c => ∀ l4 l5 : Option qPV, qV 338 1 (.inl fun r σ' => r = nI (zmx F U 30) ∧ σ' = σ) 4 [some (qr 139), some (qi (nI b)), some (qi (nI (zmx F U c))), some (qi (nI (c + 1))), l4, l5] [] σ) (fun c hc ih => ?_) 0 (Nat.zero_le _) none none
  intro l4 l5
  have b1 := zmx_le F U c
  have st : zmx F U (c + 1) = if zmx F U c < zcnt F U (c + 1) then zcnt F U (c + 1) else zmx F U c := rfl
  have hfin : c = 30 → zmx F U 30 = zmx F U c := fun e => by rw [e]
  generalize zmx F U c = S at b1 st hfin ⊢
  refine qV.go 30 [4, 16] ok_338 ?_
  simp only [qW_nop, qW_iconst, qW_bipush, qW_iloadn, qW_iload, qW_aloadn, qW_istoren, qW_istore, qW_iinc, qW_iadd, qW_imul, qW_ifeq, qW_icne, qW_icgt, qW_goto, qW_getf, qW_iald, qW_bald, qW_mmax, qW_iret0, Nat.reduceAdd, Nat.reduceMul, Nat.reduceBEq, Nat.reduceEqDiff, Nat.reduceLT, Nat.reduceLeDiff, Nat.zero_le, nI_add, nI_mul, nI_cl, qin_eq, qofI, qlg_0, qlg_s, qls_i0, qls_r0, qls_l0, qls_1, qls_2, qkl_i, qkl_r, qkl_l, qkl_n, qIsI_i, qIsL_l, qIsR_r, qint_i, qil_i, qil_r, qil_l, qf4_0, qf4_1, qf4_2, qf4_3, qf2_0, qf2_1, qcs_n, qcs_i, qcs_r, qcs_l, qst_n, qst_c, qJ_0, qJ_st, qJ_go, qfl_I, qfl_Z, qfl_L, qfl_R, qrI_i, qrL_l, qrV_v, qRcv_0, qRcv_s, eq_self, true_and, and_true, true_or, or_true, false_and, and_false, false_or, or_false, ite_true, if_true, if_false, Bool.true_or, Bool.false_or, Bool.or_false, beq_self_eq_true, Bool.false_eq_true, bX12_mostAlike_0, bX12_mostAlike_4, bX12_mostAlike_16, bX12_mostAlike_74, bX12_mostAlike_75, bX12_mostAlike_84, bX12_mostAlike_97, kX12_mostAlike_0, kX12_mostAlike_4, kX12_mostAlike_16, kX12_mostAlike_74, kX12_mostAlike_75, kX12_mostAlike_84, kX12_mostAlike_97, qK_139, qR_139_0, qK_140, qR_139_1, qK_141, qR_139_5, qK_142, qR_139_6, qK_143, qR_139_7, qK_144, qR_139_8, qK_145, qR_139_9, qK_146, qR_139_21, qK_147, qR_139_25, qK_148, qR_139_30, qK_149, qR_139_31, qK_150, qR_139_33, qK_151, qR_139_34, qK_152, qR_139_35, qK_153, qR_139_36, qK_154, qR_139_39, qK_155, qR_139_40, qK_156, qR_139_41, qK_157]
  simp (disch := omega) only [nI_leI, nI_ltI, nI_eq, nI_cl, qin_eq, nI_add, nI_mul, qb_z, qb_t, qb_f, nI_ne0', Nat.reduceAdd, Bool.false_eq_true, if_false, if_true, true_and, and_true, Nat.reduceEqDiff, not_true_eq_false, not_false_eq_true, false_implies, true_implies, ite_true, ite_false]
  refine ⟨fun h1 => ?_, fun h1 => ?_⟩
  · rw [hfin (by omega)]
  · have hc1 : c < 30 := by omega
    refine qdown (n := 30) (P := fun k => qV 338 1 (.inl fun r σ' => r = nI (zmx F U 30) ∧ σ' = σ) 16 [some (qr 139), some (qi (nI b)), some (qi (nI S)), some (qi (nI (c + 1))), some (qi (nI (zcount (fun i => F (c + 1) && F (i + 1) && decide (U (c + 1) = U (i + 1))) k))), some (qi (nI (k + 1)))] [] σ) (fun k hk ih2 => ?_) 0 (Nat.zero_le _)
    have b2 := zcount_le (fun i => F (c + 1) && F (i + 1) && decide (U (c + 1) = U (i + 1))) k
    have st2 : zcount (fun i => F (c + 1) && F (i + 1) && decide (U (c + 1) = U (i + 1))) (k + 1) = zcount (fun i => F (c + 1) && F (i + 1) && decide (U (c + 1) = U (i + 1))) k + (if (F (c + 1) && F (k + 1) && decide (U (c + 1) = U (k + 1))) = true then 1 else 0) := rfl
    have hfin2 : k = 30 → zcnt F U (c + 1) = zcount (fun i => F (c + 1) && F (i + 1) && decide (U (c + 1) = U (i + 1))) k := fun e => by rw [e]; rfl
    generalize zcount (fun i => F (c + 1) && F (i + 1) && decide (U (c + 1) = U (i + 1))) k = V at b2 st2 hfin2 ⊢
    refine qV.go 30 [4, 16, 75] ok_338 ?_
    simp only [qW_nop, qW_iconst, qW_bipush, qW_iloadn, qW_iload, qW_aloadn, qW_istoren, qW_istore, qW_iinc, qW_iadd, qW_imul, qW_ifeq, qW_icne, qW_icgt, qW_goto, qW_getf, qW_iald, qW_bald, qW_mmax, qW_iret0, Nat.reduceAdd, Nat.reduceMul, Nat.reduceBEq, Nat.reduceEqDiff, Nat.reduceLT, Nat.reduceLeDiff, Nat.zero_le, nI_add, nI_mul, nI_cl, qin_eq, qofI, qlg_0, qlg_s, qls_i0, qls_r0, qls_l0, qls_1, qls_2, qkl_i, qkl_r, qkl_l, qkl_n, qIsI_i, qIsL_l, qIsR_r, qint_i, qil_i, qil_r, qil_l, qf4_0, qf4_1, qf4_2, qf4_3, qf2_0, qf2_1, qcs_n, qcs_i, qcs_r, qcs_l, qst_n, qst_c, qJ_0, qJ_st, qJ_go, qfl_I, qfl_Z, qfl_L, qfl_R, qrI_i, qrL_l, qrV_v, qRcv_0, qRcv_s, eq_self, true_and, and_true, true_or, or_true, false_and, and_false, false_or, or_false, ite_true, if_true, if_false, Bool.true_or, Bool.false_or, Bool.or_false, beq_self_eq_true, Bool.false_eq_true, bX12_mostAlike_0, bX12_mostAlike_4, bX12_mostAlike_16, bX12_mostAlike_74, bX12_mostAlike_75, bX12_mostAlike_84, bX12_mostAlike_97, kX12_mostAlike_0, kX12_mostAlike_4, kX12_mostAlike_16, kX12_mostAlike_74, kX12_mostAlike_75, kX12_mostAlike_84, kX12_mostAlike_97, qK_139, qR_139_0, qK_140, qR_139_1, qK_141, qR_139_5, qK_142, qR_139_6, qK_143, qR_139_7, qK_144, qR_139_8, qK_145, qR_139_9, qK_146, qR_139_21, qK_147, qR_139_25, qK_148, qR_139_30, qK_149, qR_139_31, qK_150, qR_139_33, qK_151, qR_139_34, qK_152, qR_139_35, qK_153, qR_139_36, qK_154, qR_139_39, qK_155, qR_139_40, qK_156, qR_139_41, qK_157]
    simp (disch := omega) only [nI_leI, nI_ltI, nI_eq, nI_cl, qin_eq, nI_add, nI_mul, qb_z, qb_t, qb_f, nI_ne0', Nat.reduceAdd, Bool.false_eq_true, if_false, if_true, true_and, and_true, Nat.reduceEqDiff, not_true_eq_false, not_false_eq_true, false_implies, true_implies, ite_true, ite_false]
    refine ⟨fun h2 => ?_, fun h2 => ?_⟩
    · rw [hfin2 (by omega)] at st
      have e : qmax (nI S) (nI V) = nI (if S < V then V else S) := by
        unfold qmax
        by_cases h9 : S < V
        · rw [if_pos h9, if_pos ((nI_ltI (by omega) (by omega)).mpr h9)]
        · rw [if_neg h9, if_neg (fun h8 => h9 ((nI_ltI (by omega) (by omega)).mp h8))]
      rw [e, ← st]
      exact ih hc1 _ _
    · have hk1 : k < 30 := by omega
      rw [hF (c + 1) (by omega) (by omega), hF (k + 1) (by omega) (by omega)]
      have hu1 := hU2 (c + 1)
      have hu2 := hU2 (k + 1)
      have fin : ∀ v : Nat, v = (if (F (c + 1) && F (k + 1) && decide (U (c + 1) = U (k + 1))) = true then 1 else 0) → qV 338 1 (.inl fun r σ' => r = nI (zmx F U 30) ∧ σ' = σ) 75 [some (qr 139), some (qi (nI b)), some (qi (nI S)), some (qi (nI (c + 1))), some (qi (nI V)), some (qi (nI (k + 1)))] [qi (nI v), qi (nI V)] σ := by
        intro v hv
        refine qV.go 30 [4, 16] ok_338 ?_
        simp only [qW_nop, qW_iconst, qW_bipush, qW_iloadn, qW_iload, qW_aloadn, qW_istoren, qW_istore, qW_iinc, qW_iadd, qW_imul, qW_ifeq, qW_icne, qW_icgt, qW_goto, qW_getf, qW_iald, qW_bald, qW_mmax, qW_iret0, Nat.reduceAdd, Nat.reduceMul, Nat.reduceBEq, Nat.reduceEqDiff, Nat.reduceLT, Nat.reduceLeDiff, Nat.zero_le, nI_add, nI_mul, nI_cl, qin_eq, qofI, qlg_0, qlg_s, qls_i0, qls_r0, qls_l0, qls_1, qls_2, qkl_i, qkl_r, qkl_l, qkl_n, qIsI_i, qIsL_l, qIsR_r, qint_i, qil_i, qil_r, qil_l, qf4_0, qf4_1, qf4_2, qf4_3, qf2_0, qf2_1, qcs_n, qcs_i, qcs_r, qcs_l, qst_n, qst_c, qJ_0, qJ_st, qJ_go, qfl_I, qfl_Z, qfl_L, qfl_R, qrI_i, qrL_l, qrV_v, qRcv_0, qRcv_s, eq_self, true_and, and_true, true_or, or_true, false_and, and_false, false_or, or_false, ite_true, if_true, if_false, Bool.true_or, Bool.false_or, Bool.or_false, beq_self_eq_true, Bool.false_eq_true, bX12_mostAlike_0, bX12_mostAlike_4, bX12_mostAlike_16, bX12_mostAlike_74, bX12_mostAlike_75, bX12_mostAlike_84, bX12_mostAlike_97, kX12_mostAlike_0, kX12_mostAlike_4, kX12_mostAlike_16, kX12_mostAlike_74, kX12_mostAlike_75, kX12_mostAlike_84, kX12_mostAlike_97, qK_139, qR_139_0, qK_140, qR_139_1, qK_141, qR_139_5, qK_142, qR_139_6, qK_143, qR_139_7, qK_144, qR_139_8, qK_145, qR_139_9, qK_146, qR_139_21, qK_147, qR_139_25, qK_148, qR_139_30, qK_149, qR_139_31, qK_150, qR_139_33, qK_151, qR_139_34, qK_152, qR_139_35, qK_153, qR_139_36, qK_154, qR_139_39, qK_155, qR_139_40, qK_156, qR_139_41, qK_157]
        rw [hv, ← st2]
        exact ih2 hk1
      rw [hU (c + 1) (by omega) (by omega), hU (k + 1) (by omega) (by omega)]
      simp (disch := omega) only [nI_leI, nI_ltI, nI_eq, nI_cl, qin_eq, nI_add, nI_mul, qb_z, qb_t, qb_f, nI_ne0', Nat.reduceAdd, Bool.false_eq_true, if_false, if_true, true_and, and_true, Nat.reduceEqDiff, not_true_eq_false, not_false_eq_true, false_implies, true_implies, ite_true, ite_false, Bool.not_eq_false, Bool.not_eq_true]
      refine ⟨fun h3 => ?_, fun h3 => ⟨fun h4 => ?_, fun h4 => ⟨fun h5 => ?_, fun h5 => ?_⟩⟩⟩
      · exact fin 0 (by simp [h3])
      · exact fin 0 (by simp [h4])
      · exact fin 0 (by simp [h5])
      · exact fin 1 (by simp [h3, h4, h5])
-- games
def zstir (C : zC) (q : Nat) : zC := zu C 8 q (if 99 < C 8 q + 9 then 99 else C 8 q + 9)
/-- a deed: the eager one (even turns) ends a quarrel, the proud one stirs it; the last is nothing -/
def zdeed (C : zC) (l q : Nat) : zC := if q = C 0 1 then C else if l % 2 = 0 then zu C 9 q 3 else zstir C q
/-- a deed's outcome against the best so far -/
def zst (l v q : Nat) : Option (Nat × Nat) → Option (Nat × Nat)
  | none => some (q, v)
  | some s => if (l % 2 = 0 ∧ v < s.2) ∨ (l % 2 ≠ 0 ∧ s.2 < v) then some (q, v) else some s
def zfold (V : Nat → Nat) (ok : Nat → Bool) (l : Nat) : Nat → Option (Nat × Nat)
  | 0 => none
  | q + 1 => if ok q = true then zst l (V q) q (zfold V ok l q) else zfold V ok l q
def zdok (C : zC) (q : Nat) : Bool := decide (q = C 0 1) || decide (C 9 q = 0)
/-- breakfast by best play from turn l on, with so many turns to come -/
def zplay : Nat → Nat → zC → Nat
  | 0, _, C => zbrk C
  | f + 1, l, C => ((zfold (fun q => zplay f (l + 1) (zdeed C l q)) (zdok C) l (C 0 1 + 1)).map Prod.snd).getD 0
/-- the best deed (its number, what comes of it) -/
def zmove (f l : Nat) (C : zC) : Option (Nat × Nat) := zfold (fun q => zplay f (l + 1) (zdeed C l q)) (zdok C) l (C 0 1 + 1)
theorem zdeed_W {C : zC} (hw : zW C) {l q : Nat} (hq : q ≤ C 0 1) : zW (zdeed C l q) := by
  unfold zdeed
  split
  · exact hw
  · split
    · exact zW_end1 hw (by decide)
    · obtain ⟨wb, wq, ww1, ww2, wh1, wh2, wo, wm, wB, wQ⟩ := id hw
      unfold zstir
      have e : ∀ f i x, f ≠ 8 → zu C 8 q x f i = C f i := fun f i x h => zu_ne (by omega)
      refine ⟨?_, ?_, ?_, ?_, ?_, ?_, ?_, ?_, fun b1 hb1 => ?_, fun q1 hq1 => ?_⟩
      · rw [e 0 _ _ (by decide)]; exact wb
      · rw [e 0 _ _ (by decide)]; exact wq
      · rw [e 0 _ _ (by decide)]; exact ww1
      · rw [e 0 _ _ (by decide)]; exact ww2
      · rw [e 0 _ _ (by decide)]; exact wh1
      · rw [e 0 _ _ (by decide)]; exact wh2
      · rw [e 0 _ _ (by decide)]; exact wo
      · rw [e 0 _ _ (by decide)]; exact wm
      · rw [e 0 _ _ (by decide)] at hb1
        rw [e 0 _ _ (by decide), e 0 _ _ (by decide), e 1 _ _ (by decide), e 2 _ _ (by decide), e 3 _ _ (by decide), e 4 _ _ (by decide)]
        exact wB b1 hb1
      · rw [e 0 _ _ (by decide)] at hq1
        rw [e 0 _ _ (by decide), e 6 _ _ (by decide), e 7 _ _ (by decide), e 9 _ _ (by decide)]
        have := wQ q1 hq1
        by_cases h1 : q1 = q
        · subst h1
          rw [zu_eq]
          refine ⟨this.1, this.2.1, this.2.2.1, ?_, this.2.2.2.2⟩
          split <;> omega
        · rw [zu_ne (by omega)]; exact this
theorem zdeed_q (C : zC) (l q f i : Nat) (h8 : f ≠ 8) (h9 : f ≠ 9) : zdeed C l q f i = C f i := by
  unfold zdeed zstir
  split
  · rfl
  · split
    · exact zu_ne (by omega)
    · exact zu_ne (by omega)
theorem zst_bd {l v q : Nat} {a : Option (Nat × Nat)} {M N : Nat} (hv : v ≤ M) (hq : q ≤ N) (ha : ∀ s, a = some s → s.1 ≤ N ∧ s.2 ≤ M) : ∀ s, zst l v q a = some s → s.1 ≤ N ∧ s.2 ≤ M := by
  intro s hs
  cases a with
  | none => simp only [zst] at hs; cases hs; exact ⟨hq, hv⟩
  | some s0 =>
    simp only [zst] at hs
    split at hs
    · cases hs; exact ⟨hq, hv⟩
    · cases hs; exact ha _ rfl
theorem zfold_bd {V : Nat → Nat} {ok : Nat → Bool} {l M : Nat} : ∀ q, (∀ i, i < q → V i ≤ M) → ∀ s, zfold V ok l q = some s → s.1 ≤ q ∧ s.2 ≤ M
  | 0, _, s, h => by simp [zfold] at h
  | q + 1, hV, s, h => by
    have ih := zfold_bd (V := V) (ok := ok) (l := l) (M := M) q (fun i hi => hV i (by omega))
    simp only [zfold] at h
    split at h
    · exact zst_bd (hV q (by omega)) (by omega) (fun s hs => by have := ih s hs; omega) s h
    · have := ih s h
      omega
theorem zplay_bd : ∀ (f l : Nat) {C : zC}, zW C → C 0 5 ≤ 99000 → zplay f l C ≤ 130
  | 0, _, _, hw, hm => zbrk_le hw hm
  | f + 1, l, C, hw, hm => by
    simp only [zplay]
    cases h : zfold (fun q => zplay f (l + 1) (zdeed C l q)) (zdok C) l (C 0 1 + 1) with
    | none => simp
    | some s =>
      have := (zfold_bd (M := 130) (C 0 1 + 1) (fun i hi => zplay_bd f (l + 1) (zdeed_W hw (by omega)) (by rw [zdeed_q _ _ _ _ _ (by decide) (by decide)]; exact hm)) s h).2
      simpa using this
def zAcc (σ : qSg) (l : Nat) : Option (Nat × Nat) → Prop
  | none => σ.1 153 l = iI (-1)
  | some s => σ.1 153 l = nI s.1 ∧ σ.1 152 l = nI s.2
set_option maxRecDepth 20000 in
theorem m_settles {σ : qSg} {l v q : Nat} {a : Option (Nat × Nat)} (hl : l < 4) (hv : v ≤ 1000) (hq : q ≤ 1000) (ha : zAcc σ l a) (hb : ∀ s, a = some s → s.1 ≤ 1000 ∧ s.2 ≤ 1000) (hd : σ.1 151 l = nI q) :
    qCV 1 345 [qr 139, qi (nI l), qi (nI v)] σ (fun σ' => zAcc σ' l (zst l v q a) ∧ zF (fun a j => (a = 152 ∨ a = 153) ∧ j = l) σ σ') := by
  refine qCV.of [some (qr 139), some (qi (nI l)), some (qi (nI v)), none] ok_345 (Nat.le_of_ble_eq_true rfl) rfl ?_
  have go : zst l v q a = some (q, v) → ∀ l3 : Option qPV, qV 345 1 (.inr (.inr fun σ' => zAcc σ' l (zst l v q a) ∧ zF (fun a j => (a = 152 ∨ a = 153) ∧ j = l) σ σ')) 50 [some (qr 139), some (qi (nI l)), some (qi (nI v)), l3] [] σ := by
    intro e l3
    refine qV.go 30 [9999] ok_345 ?_
    simp only [qW_nop, qW_iconst, qW_iconstm, qW_iloadn, qW_aloadn, qW_istoren, qW_irem, qW_ifne, qW_icne, qW_iclt, qW_icgt, qW_goto, qW_getf, qW_iald, qW_iast, qW_vret, Nat.reduceAdd, Nat.reduceMul, Nat.reduceBEq, Nat.reduceEqDiff, Nat.reduceLT, Nat.reduceLeDiff, Nat.zero_le, nI_add, nI_mul, nI_cl, qin_eq, qofI, qlg_0, qlg_s, qls_i0, qls_r0, qls_l0, qls_1, qls_2, qkl_i, qkl_r, qkl_l, qkl_n, qIsI_i, qIsL_l, qIsR_r, qint_i, qil_i, qil_r, qil_l, qf4_0, qf4_1, qf4_2, qf4_3, qf2_0, qf2_1, qcs_n, qcs_i, qcs_r, qcs_l, qst_n, qst_c, qJ_0, qJ_st, qJ_go, qfl_I, qfl_Z, qfl_L, qfl_R, qrI_i, qrL_l, qrV_v, qRcv_0, qRcv_s, eq_self, true_and, and_true, true_or, or_true, false_and, and_false, false_or, or_false, ite_true, if_true, if_false, Bool.true_or, Bool.false_or, Bool.or_false, beq_self_eq_true, Bool.false_eq_true, bX12_settles_0, bX12_settles_14, bX12_settles_15, bX12_settles_39, bX12_settles_49, bX12_settles_50, kX12_settles_0, kX12_settles_14, kX12_settles_15, kX12_settles_39, kX12_settles_49, kX12_settles_50, qK_139, qR_139_0, qK_140, qR_139_1, qK_141, qR_139_5, qK_142, qR_139_6, qK_143, qR_139_7, qK_144, qR_139_8, qK_145, qR_139_9, qK_146, qR_139_21, qK_147, qR_139_25, qK_148, qR_139_30, qK_149, qR_139_31, qK_150, qR_139_33, qK_151, qR_139_34, qK_152, qR_139_35, qK_153, qR_139_36, qK_154, qR_139_39, qK_155, qR_139_40, qK_156, qR_139_41, qK_157]
    simp (disch := omega) only [nI_leI, nI_ltI, nI_eq, nI_cl, qin_eq, nI_add, nI_mul, qb_z, qb_t, qb_f, nI_ne0', Nat.reduceAdd, Bool.false_eq_true, if_false, if_true, true_and, and_true, Nat.reduceEqDiff, not_true_eq_false, not_false_eq_true, false_implies, true_implies, ite_true, ite_false]
    rw [qwi_1, if_neg (by omega), hd, e]
    refine ⟨⟨?_, ?_⟩, (zF.wi ⟨Or.inl rfl, rfl⟩).tr (zF.wi ⟨Or.inr rfl, rfl⟩)⟩
    · rw [qwi_1, if_pos (by simp)]
    · rw [qwi_1, if_neg (by omega), qwi_1, if_pos (by simp)]
  refine qV.go 30 [50] ok_345 ?_
  simp only [qW_nop, qW_iconst, qW_iconstm, qW_iloadn, qW_aloadn, qW_istoren, qW_irem, qW_ifne, qW_icne, qW_iclt, qW_icgt, qW_goto, qW_getf, qW_iald, qW_iast, qW_vret, Nat.reduceAdd, Nat.reduceMul, Nat.reduceBEq, Nat.reduceEqDiff, Nat.reduceLT, Nat.reduceLeDiff, Nat.zero_le, nI_add, nI_mul, nI_cl, qin_eq, qofI, qlg_0, qlg_s, qls_i0, qls_r0, qls_l0, qls_1, qls_2, qkl_i, qkl_r, qkl_l, qkl_n, qIsI_i, qIsL_l, qIsR_r, qint_i, qil_i, qil_r, qil_l, qf4_0, qf4_1, qf4_2, qf4_3, qf2_0, qf2_1, qcs_n, qcs_i, qcs_r, qcs_l, qst_n, qst_c, qJ_0, qJ_st, qJ_go, qfl_I, qfl_Z, qfl_L, qfl_R, qrI_i, qrL_l, qrV_v, qRcv_0, qRcv_s, eq_self, true_and, and_true, true_or, or_true, false_and, and_false, false_or, or_false, ite_true, if_true, if_false, Bool.true_or, Bool.false_or, Bool.or_false, beq_self_eq_true, Bool.false_eq_true, bX12_settles_0, bX12_settles_14, bX12_settles_15, bX12_settles_39, bX12_settles_49, bX12_settles_50, kX12_settles_0, kX12_settles_14, kX12_settles_15, kX12_settles_39, kX12_settles_49, kX12_settles_50, qK_139, qR_139_0, qK_140, qR_139_1, qK_141, qR_139_5, qK_142, qR_139_6, qK_143, qR_139_7, qK_144, qR_139_8, qK_145, qR_139_9, qK_146, qR_139_21, qK_147, qR_139_25, qK_148, qR_139_30, qK_149, qR_139_31, qK_150, qR_139_33, qK_151, qR_139_34, qK_152, qR_139_35, qK_153, qR_139_36, qK_154, qR_139_39, qK_155, qR_139_40, qK_156, qR_139_41, qK_157]
  rw [nI_rem (by omega) (by decide) (by decide)]
  cases a with
  | none =>
    have ha : σ.1 153 l = iI (-1) := ha
    simp only [nI_c (show l < 2147483648 by omega)]
    rw [ha]
    simp (disch := omega) only [nI_leI, nI_ltI, nI_eq, nI_cl, qin_eq, nI_add, nI_mul, qb_z, qb_t, qb_f, nI_ne0', Nat.reduceAdd, Bool.false_eq_true, if_false, if_true, true_and, and_true, Nat.reduceEqDiff, not_true_eq_false, not_false_eq_true, false_implies, true_implies, ite_true, ite_false]
    exact go rfl _
  | some s =>
    obtain ⟨b1, b2⟩ := hb s rfl
    obtain ⟨a1, a2⟩ := ha
    have hne : ¬ nI s.1 = iI (-1) := by
      rw [qeq, nI_t (by omega), iI_toInt (by decide) (by decide)]
      omega
    simp only [nI_c (show l < 2147483648 by omega)]
    rw [a1, a2]
    simp only [hne]
    simp (disch := omega) only [nI_leI, nI_ltI, nI_eq, nI_cl, qin_eq, nI_add, nI_mul, qb_z, qb_t, qb_f, nI_ne0', Nat.reduceAdd, Bool.false_eq_true, if_false, if_true, true_and, and_true, Nat.reduceEqDiff, not_true_eq_false, not_false_eq_true, false_implies, true_implies, ite_true, ite_false]
    refine ⟨fun hp => ⟨fun hc => go ?_ _, fun hc => ⟨?_, zF.rf⟩⟩, fun hp => ⟨fun hc => go ?_ _, fun hc => ⟨?_, zF.rf⟩⟩⟩
    · simp only [zst]
      rw [if_pos (Or.inr ⟨by omega, hc⟩)]
    · have e : zst l v q (some s) = some s := by
        simp only [zst]
        rw [if_neg (by omega)]
      rw [e]
      exact ⟨a1, a2⟩
    · simp only [zst]
      rw [if_pos (Or.inl ⟨by omega, hc⟩)]
    · have e : zst l v q (some s) = some s := by
        simp only [zst]
        rw [if_neg (by omega)]
      rw [e]
      exact ⟨a1, a2⟩
set_option maxRecDepth 20000 in
theorem m_doesDeed {σ : qSg} {C : zC} (h : zM σ 0 C) (hw : zW C) {l q : Nat} (hq : q ≤ C 0 1) {e : Bool} (he : e = decide (l % 2 = 0)) :
    qCI 4 346 [qr 139, qi (nI q), qi (qb e)] σ (fun r σ' => r = qb (zdok C q) ∧ (zdok C q = true → zM σ' 0 (zdeed C l q)) ∧ zF zPc σ σ') := by
  obtain ⟨wb, wq, ww1, ww2, wh1, wh2, wo, wm, wB, wQ⟩ := id hw
  refine qCI.of [some (qr 139), some (qi (nI q)), some (qi (qb e))] ok_346 (Nat.le_of_ble_eq_true rfl) rfl ?_
  have hdeed : zdok C q = true → q ≠ C 0 1 → C 9 q = 0 := by
    intro hk hn
    simp only [zdok, Bool.or_eq_true, decide_eq_true_eq] at hk
    omega
  refine qV.go 30 [9999] ok_346 ?_
  simp only [qW_nop, qW_iconst, qW_bipush, qW_iloadn, qW_aloadn, qW_iadd, qW_ifeq, qW_ifne, qW_icne, qW_goto, qW_getf, qW_iald, qW_iast, qW_cs1_0, qW_cv2_0, qW_cv3_0, qW_mmin, qW_iret1, Nat.reduceAdd, Nat.reduceMul, Nat.reduceBEq, Nat.reduceEqDiff, Nat.reduceLT, Nat.reduceLeDiff, Nat.zero_le, nI_add, nI_mul, nI_cl, qin_eq, qofI, qlg_0, qlg_s, qls_i0, qls_r0, qls_l0, qls_1, qls_2, qkl_i, qkl_r, qkl_l, qkl_n, qIsI_i, qIsL_l, qIsR_r, qint_i, qil_i, qil_r, qil_l, qf4_0, qf4_1, qf4_2, qf4_3, qf2_0, qf2_1, qcs_n, qcs_i, qcs_r, qcs_l, qst_n, qst_c, qJ_0, qJ_st, qJ_go, qfl_I, qfl_Z, qfl_L, qfl_R, qrI_i, qrL_l, qrV_v, qRcv_0, qRcv_s, eq_self, true_and, and_true, true_or, or_true, false_and, and_false, false_or, or_false, ite_true, if_true, if_false, Bool.true_or, Bool.false_or, Bool.or_false, beq_self_eq_true, Bool.false_eq_true, bX12_doesDeed_0, bX12_doesDeed_12, bX12_doesDeed_22, bX12_doesDeed_41, bX12_doesDeed_66, kX12_doesDeed_0, kX12_doesDeed_12, kX12_doesDeed_22, kX12_doesDeed_41, kX12_doesDeed_66, qK_139, qR_139_0, qK_140, qR_139_1, qK_141, qR_139_5, qK_142, qR_139_6, qK_143, qR_139_7, qK_144, qR_139_8, qK_145, qR_139_9, qK_146, qR_139_21, qK_147, qR_139_25, qK_148, qR_139_30, qK_149, qR_139_31, qK_150, qR_139_33, qK_151, qR_139_34, qK_152, qR_139_35, qK_153, qR_139_36, qK_154, qR_139_39, qK_155, qR_139_40, qK_156, qR_139_41, qK_157]
  rw [zM_s h 1 (by decide)]
  simp (disch := omega) only [nI_leI, nI_ltI, nI_eq, nI_cl, qin_eq, nI_add, nI_mul, qb_z, qb_t, qb_f, nI_ne0', Nat.reduceAdd, Bool.false_eq_true, if_false, if_true, true_and, and_true, Nat.reduceEqDiff, not_true_eq_false, not_false_eq_true, false_implies, true_implies, ite_true, ite_false]
  refine ⟨fun hn => ?_, fun hn => ?_⟩
  · refine qBI.fn (m_isOpen h hw (by omega)) (by decide) ?_
    have ho : zOpen C q = zdok C q := by simp [zOpen, zdok, hn]
    rw [ho]
    cases ek : zdok C q with
    | false =>
      refine ⟨fun h1 => ?_, fun _ => ⟨rfl, fun h1 => ?_, zF.rf⟩⟩
      · exact absurd nI_0 h1
      · cases h1
    | true =>
      refine ⟨fun _ => ⟨fun h1 => ?_, fun h1 => ?_⟩, fun h1 => ?_⟩
      · have hl : ¬ l % 2 = 0 := by
          intro h2
          rw [he, h2] at h1
          simp at h1
        refine qBI.fn (m_quarrelRow σ _) (by decide) (qBI.fn (m_quarrelOf σ (by omega)) (by decide) ?_)
        have g := wQ q (by omega)
        rw [zMq2 h (by omega)]
        simp (disch := omega) only [nI_leI, nI_ltI, nI_eq, nI_cl, qin_eq, nI_add, nI_mul, qb_z, qb_t, qb_f, nI_ne0', Nat.reduceAdd, Bool.false_eq_true, if_false, if_true, true_and, and_true, Nat.reduceEqDiff, not_true_eq_false, not_false_eq_true, false_implies, true_implies, ite_true, ite_false]
        have e2 : zdeed C l q = zstir C q := by
          unfold zdeed
          rw [if_neg hn, if_neg hl]
        rw [e2]
        have e3 : qmin (nI 99) (nI (C 8 q + 9)) = nI (if 99 < C 8 q + 9 then 99 else C 8 q + 9) := by
          simp only [qmin]
          by_cases h5 : 99 < C 8 q + 9
          · rw [if_pos h5, if_neg]
            rw [qlt, nI_t (by omega), nI_t (by omega)]
            omega
          · rw [if_neg h5]
            by_cases h6 : C 8 q + 9 = 99
            · rw [h6, ite_self]
            · rw [if_pos]
              rw [qlt, nI_t (by omega), nI_t (by omega)]
              omega
        rw [e3]
        exact ⟨zM_wq h hw (q := q) (f := 2) (by omega) (by decide), zF.wi ⟨rfl, by omega⟩⟩
      · have hl : l % 2 = 0 := by
          by_cases h2 : l % 2 = 0
          · exact h2
          · rw [he] at h1
            simp [h2] at h1
        refine qBI.fn (m_quarrelRow σ _) (by decide) ?_
        have e2 : zdeed C l q = zu C 9 q 3 := by
          unfold zdeed
          rw [if_neg hn, if_pos hl]
        rw [e2]
        simp (disch := omega) only [nI_leI, nI_ltI, nI_eq, nI_cl, qin_eq, nI_add, nI_mul, qb_z, qb_t, qb_f, nI_ne0', Nat.reduceAdd, Bool.false_eq_true, if_false, if_true, true_and, and_true, Nat.reduceEqDiff, not_true_eq_false, not_false_eq_true, false_implies, true_implies, ite_true, ite_false]
        exact ⟨zM_wq h hw (q := q) (f := 3) (by omega) (by decide), zF.wi ⟨rfl, by omega⟩⟩
      · exact absurd h1 (by decide)
  · subst hn
    refine ⟨by simp [zdok, qb, nI_1], fun _ => ?_, zF.rf⟩
    simp only [zdeed, if_true]
    exact h
