/-! the reference: whom to ask; games -/
def zcnt (F : Nat → Bool) (U : Nat → Nat) (p : Nat) : Nat := zcount (fun i => F p && F (i + 1) && decide (U p = U (i + 1))) 30
def zmx (F : Nat → Bool) (U : Nat → Nat) : Nat → Nat
  | 0 => 0
  | n + 1 => if zmx F U n < zcnt F U (n + 1) then zcnt F U (n + 1) else zmx F U n
theorem zmx_le (F : Nat → Bool) (U : Nat → Nat) : ∀ n, zmx F U n ≤ 30
  | 0 => by simp [zmx]
  | n + 1 => by
    have := zmx_le F U n
    have h2 := zcount_le (fun i => F (n + 1) && F (i + 1) && decide (U (n + 1) = U (i + 1))) 30
    simp only [zmx]
    split
    · exact h2
    · exact this
set_option maxRecDepth 20000 in
theorem m_mostAlike {σ : qSg} {F : Nat → Bool} {U : Nat → Nat} {b : Nat} (hb : b < 8) (hF : ∀ p, 1 ≤ p → p ≤ 30 → σ.1 150 p = qb (F p)) (hU : ∀ p, 1 ≤ p → p ≤ 30 → σ.1 149 (8 * p + b) = nI (U p)) (hU2 : ∀ p, U p ≤ 1000) :
    qFI 1 338 [qr 139, qi (nI b)] σ (nI (zmx F U 30)) := by
  refine qCI.of [some (qr 139), some (qi (nI b)), none, none, none, none] ok_338 (Nat.le_of_ble_eq_true rfl) rfl ?_
  refine qV.go 30 [4] ok_338 ?_
  simp only [qW_nop, qW_iconst, qW_bipush, qW_iloadn, qW_iload, qW_aloadn, qW_istoren, qW_istore, qW_iinc, qW_iadd, qW_imul, qW_ifeq, qW_icne, qW_icgt, qW_goto, qW_getf, qW_iald, qW_bald, qW_mmax, qW_iret0, Nat.reduceAdd, Nat.reduceMul, Nat.reduceBEq, Nat.reduceEqDiff, Nat.reduceLT, Nat.reduceLeDiff, Nat.zero_le, nI_add, nI_mul, nI_cl, qin_eq, qofI, qlg_0, qlg_s, qls_i0, qls_r0, qls_l0, qls_1, qls_2, qkl_i, qkl_r, qkl_l, qkl_n, qIsI_i, qIsL_l, qIsR_r, qint_i, qil_i, qil_r, qil_l, qf4_0, qf4_1, qf4_2, qf4_3, qf2_0, qf2_1, qcs_n, qcs_i, qcs_r, qcs_l, qst_n, qst_c, qJ_0, qJ_st, qJ_go, qfl_I, qfl_Z, qfl_L, qfl_R, qrI_i, qrL_l, qrV_v, qRcv_0, qRcv_s, eq_self, true_and, and_true, true_or, or_true, false_and, and_false, false_or, or_false, ite_true, if_true, if_false, Bool.true_or, Bool.false_or, Bool.or_false, beq_self_eq_true, Bool.false_eq_true, bX12_mostAlike_0, bX12_mostAlike_4, bX12_mostAlike_16, bX12_mostAlike_74, bX12_mostAlike_75, bX12_mostAlike_84, bX12_mostAlike_97, kX12_mostAlike_0, kX12_mostAlike_4, kX12_mostAlike_16, kX12_mostAlike_74, kX12_mostAlike_75, kX12_mostAlike_84, kX12_mostAlike_97, qK_139, qR_139_0, qK_140, qR_139_1, qK_141, qR_139_5, qK_142, qR_139_6, qK_143, qR_139_7, qK_144, qR_139_8, qK_145, qR_139_9, qK_146, qR_139_21, qK_147, qR_139_25, qK_148, qR_139_30, qK_149, qR_139_31, qK_150, qR_139_33, qK_151, qR_139_34, qK_152, qR_139_35, qK_153, qR_139_36, qK_154, qR_139_39, qK_155, qR_139_40, qK_156, qR_139_41, qK_157]
  refine qdown (n := 30) (P := fun c => ∀ l4 l5 : Option qPV, qV 338 1 (.inl fun r σ' => r = nI (zmx F U 30) ∧ σ' = σ) 4 [some (qr 139), some (qi (nI b)), some (qi (nI (zmx F U c))), some (qi (nI (c + 1))), l4, l5] [] σ) (fun c hc ih => ?_) 0 (Nat.zero_le _) none none
  intro l4 l5
  have b1 := zmx_le F U c
  have st : zmx F U (c + 1) = if zmx F U c < zcnt F U (c + 1) then zcnt F U (c + 1) else zmx F U c := rfl
  have hfin : c = 30 → zmx F U 30 = zmx F U c := fun e => by rw [e]
  generalize zmx F U c = S at b1 st hfin ⊢
  refine qV.go 30 [4, 16] ok_338 ?_
  simp only [qW_nop, qW_iconst, qW_bipush, qW_iloadn, qW_iload, qW_aloadn, qW_istoren, qW_istore, qW_iinc, qW_iadd, qW_imul, qW_ifeq, qW_icne, qW_icgt, qW_goto, qW_getf, qW_iald, qW_bald, qW_mmax, qW_iret0, Nat.reduceAdd, Nat.reduceMul, Nat.reduceBEq, Nat.reduceEqDiff, Nat.reduceLT, Nat.reduceLeDiff, Nat.zero_le, nI_add, nI_mul, nI_cl, qin_eq, qofI, qlg_0, qlg_s, qls_i0, qls_r0, qls_l0, qls_1, qls_2, qkl_i, qkl_r, qkl_l, qkl_n, qIsI_i, qIsL_l, qIsR_r, qint_i, qil_i, qil_r, qil_l, qf4_0, qf4_1, qf4_2, qf4_3, qf2_0, qf2_1, qcs_n, qcs_i, qcs_r, qcs_l, qst_n, qst_c, qJ_0, qJ_st, qJ_go, qfl_I, qfl_Z, qfl_L, qfl_R, qrI_i, qrL_l, qrV_v, qRcv_0, qRcv_s, eq_self, true_and, and_true, true_or, or_true, false_and, and_false, false_or, or_false, ite_true, if_true, if_false, Bool.true_or, Bool.false_or, Bool.or_false, beq_self_eq_true, Bool.false_eq_true, bX12_mostAlike_0, bX12_mostAlike_4, bX12_mostAlike_16, bX12_mostAlike_74, bX12_mostAlike_75, bX12_mostAlike_84, bX12_mostAlike_97, kX12_mostAlike_0, kX12_mostAlike_4, kX12_mostAlike_16, kX12_mostAlike_74, kX12_mostAlike_75, kX12_mostAlike_84, kX12_mostAlike_97, qK_139, qR_139_0, qK_140, qR_139_1, qK_141, qR_139_5, qK_142, qR_139_6, qK_143, qR_139_7, qK_144, qR_139_8, qK_145, qR_139_9, qK_146, qR_139_21, qK_147, qR_139_25, qK_148, qR_139_30, qK_149, qR_139_31, qK_150, qR_139_33, qK_151, qR_139_34, qK_152, qR_139_35, qK_153, qR_139_36, qK_154, qR_139_39, qK_155, qR_139_40, qK_156, qR_139_41, qK_157]
  simp (disch := omega) only [nI_leI, nI_ltI, nI_eq, nI_cl, qin_eq, nI_add, nI_mul, qb_z, qb_t, qb_f, nI_ne0', Nat.reduceAdd, Bool.false_eq_true, if_false, if_true, true_and, and_true, Nat.reduceEqDiff, not_true_eq_false, not_false_eq_true, false_implies, true_implies, ite_true, ite_false]
  refine ⟨fun h1 => ?_, fun h1 => ?_⟩
  · rw [hfin (by omega)]
  · have hc1 : c < 30 := by omega
    refine qdown (n := 30) (P := fun k => qV 338 1 (.inl fun r σ' => r = nI (zmx F U 30) ∧ σ' = σ) 16 [some (qr 139), some (qi (nI b)), some (qi (nI S)), some (qi (nI (c + 1))), some (qi (nI (zcount (fun i => F (c + 1) && F (i + 1) && decide (U (c + 1) = U (i + 1))) k))), some (qi (nI (k + 1)))] [] σ) (fun k hk ih2 => ?_) 0 (Nat.zero_le _)
    have b2 := zcount_le (fun i => F (c + 1) && F (i + 1) && decide (U (c + 1) = U (i + 1))) k
    have st2 : zcount (fun i => F (c + 1) && F (i + 1) && decide (U (c + 1) = U (i + 1))) (k + 1) = zcount (fun i => F (c + 1) && F (i + 1) && decide (U (c + 1) = U (i + 1))) k + (if (F (c + 1) && F (k + 1) && decide (U (c + 1) = U (k + 1))) = true then 1 else 0) := rfl
    have hfin2 : k = 30 → zcnt F U (c + 1) = zcount (fun i => F (c + 1) && F (i + 1) && decide (U (c + 1) = U (i + 1))) k := fun e => by rw [e]; rfl
    generalize zcount (fun i => F (c + 1) && F (i + 1) && decide (U (c + 1) = U (i + 1))) k = V at b2 st2 hfin2 ⊢
    refine qV.go 30 [4, 16, 75] ok_338 ?_
    simp only [qW_nop, qW_iconst, qW_bipush, qW_iloadn, qW_iload, qW_aloadn, qW_istoren, qW_istore, qW_iinc, qW_iadd, qW_imul, qW_ifeq, qW_icne, qW_icgt, qW_goto, qW_getf, qW_iald, qW_bald, qW_mmax, qW_iret0, Nat.reduceAdd, Nat.reduceMul, Nat.reduceBEq, Nat.reduceEqDiff, Nat.reduceLT, Nat.reduceLeDiff, Nat.zero_le, nI_add, nI_mul, nI_cl, qin_eq, qofI, qlg_0, qlg_s, qls_i0, qls_r0, qls_l0, qls_1, qls_2, qkl_i, qkl_r, qkl_l, qkl_n, qIsI_i, qIsL_l, qIsR_r, qint_i, qil_i, qil_r, qil_l, qf4_0, qf4_1, qf4_2, qf4_3, qf2_0, qf2_1, qcs_n, qcs_i, qcs_r, qcs_l, qst_n, qst_c, qJ_0, qJ_st, qJ_go, qfl_I, qfl_Z, qfl_L, qfl_R, qrI_i, qrL_l, qrV_v, qRcv_0, qRcv_s, eq_self, true_and, and_true, true_or, or_true, false_and, and_false, false_or, or_false, ite_true, if_true, if_false, Bool.true_or, Bool.false_or, Bool.or_false, beq_self_eq_true, Bool.false_eq_true, bX12_mostAlike_0, bX12_mostAlike_4, bX12_mostAlike_16, bX12_mostAlike_74, bX12_mostAlike_75, bX12_mostAlike_84, bX12_mostAlike_97, kX12_mostAlike_0, kX12_mostAlike_4, kX12_mostAlike_16, kX12_mostAlike_74, kX12_mostAlike_75, kX12_mostAlike_84, kX12_mostAlike_97, qK_139, qR_139_0, qK_140, qR_139_1, qK_141, qR_139_5, qK_142, qR_139_6, qK_143, qR_139_7, qK_144, qR_139_8, qK_145, qR_139_9, qK_146, qR_139_21, qK_147, qR_139_25, qK_148, qR_139_30, qK_149, qR_139_31, qK_150, qR_139_33, qK_151, qR_139_34, qK_152, qR_139_35, qK_153, qR_139_36, qK_154, qR_139_39, qK_155, qR_139_40, qK_156, qR_139_41, qK_157]
    simp (disch := omega) only [nI_leI, nI_ltI, nI_eq, nI_cl, qin_eq, nI_add, nI_mul, qb_z, qb_t, qb_f, nI_ne0', Nat.reduceAdd, Bool.false_eq_true, if_false, if_true, true_and, and_true, Nat.reduceEqDiff, not_true_eq_false, not_false_eq_true, false_implies, true_implies, ite_true, ite_false]
    refine ⟨fun h2 => ?_, fun h2 => ?_⟩
    · rw [hfin2 (by omega)] at st
      have e : qmax (nI S) (nI V) = nI (if S < V then V else S) := by
        unfold qmax
        by_cases h9 : S < V
        · rw [if_pos h9, if_pos ((nI_ltI (by omega) (by omega)).mpr h9)]
        · rw [if_neg h9, if_neg (fun h8 => h9 ((nI_ltI (by omega) (by omega)).mp h8))]
      rw [e, ← st]
      exact ih hc1 _ _
    · have hk1 : k < 30 := by omega
      rw [hF (c + 1) (by omega) (by omega), hF (k + 1) (by omega) (by omega)]
      have hu1 := hU2 (c + 1)
      have hu2 := hU2 (k + 1)
      have fin : ∀ v : Nat, v = (if (F (c + 1) && F (k + 1) && decide (U (c + 1) = U (k + 1))) = true then 1 else 0) → qV 338 1 (.inl fun r σ' => r = nI (zmx F U 30) ∧ σ' = σ) 75 [some (qr 139), some (qi (nI b)), some (qi (nI S)), some (qi (nI (c + 1))), some (qi (nI V)), some (qi (nI (k + 1)))] [qi (nI v), qi (nI V)] σ := by
        intro v hv
        refine qV.go 30 [4, 16] ok_338 ?_
        simp only [qW_nop, qW_iconst, qW_bipush, qW_iloadn, qW_iload, qW_aloadn, qW_istoren, qW_istore, qW_iinc, qW_iadd, qW_imul, qW_ifeq, qW_icne, qW_icgt, qW_goto, qW_getf, qW_iald, qW_bald, qW_mmax, qW_iret0, Nat.reduceAdd, Nat.reduceMul, Nat.reduceBEq, Nat.reduceEqDiff, Nat.reduceLT, Nat.reduceLeDiff, Nat.zero_le, nI_add, nI_mul, nI_cl, qin_eq, qofI, qlg_0, qlg_s, qls_i0, qls_r0, qls_l0, qls_1, qls_2, qkl_i, qkl_r, qkl_l, qkl_n, qIsI_i, qIsL_l, qIsR_r, qint_i, qil_i, qil_r, qil_l, qf4_0, qf4_1, qf4_2, qf4_3, qf2_0, qf2_1, qcs_n, qcs_i, qcs_r, qcs_l, qst_n, qst_c, qJ_0, qJ_st, qJ_go, qfl_I, qfl_Z, qfl_L, qfl_R, qrI_i, qrL_l, qrV_v, qRcv_0, qRcv_s, eq_self, true_and, and_true, true_or, or_true, false_and, and_false, false_or, or_false, ite_true, if_true, if_false, Bool.true_or, Bool.false_or, Bool.or_false, beq_self_eq_true, Bool.false_eq_true, bX12_mostAlike_0, bX12_mostAlike_4, bX12_mostAlike_16, bX12_mostAlike_74, bX12_mostAlike_75, bX12_mostAlike_84, bX12_mostAlike_97, kX12_mostAlike_0, kX12_mostAlike_4, kX12_mostAlike_16, kX12_mostAlike_74, kX12_mostAlike_75, kX12_mostAlike_84, kX12_mostAlike_97, qK_139, qR_139_0, qK_140, qR_139_1, qK_141, qR_139_5, qK_142, qR_139_6, qK_143, qR_139_7, qK_144, qR_139_8, qK_145, qR_139_9, qK_146, qR_139_21, qK_147, qR_139_25, qK_148, qR_139_30, qK_149, qR_139_31, qK_150, qR_139_33, qK_151, qR_139_34, qK_152, qR_139_35, qK_153, qR_139_36, qK_154, qR_139_39, qK_155, qR_139_40, qK_156, qR_139_41, qK_157]
        rw [hv, ← st2]
        exact ih2 hk1
      rw [hU (c + 1) (by omega) (by omega), hU (k + 1) (by omega) (by omega)]
      simp (disch := omega) only [nI_leI, nI_ltI, nI_eq, nI_cl, qin_eq, nI_add, nI_mul, qb_z, qb_t, qb_f, nI_ne0', Nat.reduceAdd, Bool.false_eq_true, if_false, if_true, true_and, and_true, Nat.reduceEqDiff, not_true_eq_false, not_false_eq_true, false_implies, true_implies, ite_true, ite_false, Bool.not_eq_false, Bool.not_eq_true]
      refine ⟨fun h3 => ?_, fun h3 => ⟨fun h4 => ?_, fun h4 => ⟨fun h5 => ?_, fun h5 => ?_⟩⟩⟩
      · exact fin 0 (by simp [h3])
      · exact fin 0 (by simp [h4])
      · exact fin 0 (by simp [h5])
      · exact fin 1 (by simp [h3, h4, h5])
-- games
def zstir (C : zC) (q : Nat) : zC := zu C 8 q (if 99 < C 8 q + 9 then 99 else C 8 q + 9)
/-- a deed: the eager one (even turns) ends a quarrel, the proud one stirs it; the last is nothing -/
def zdeed (C : zC) (l q : Nat) : zC := if q = C 0 1 then C else if l % 2 = 0 then zu C 9 q 3 else zstir C q
/-- breakfast by best play from turn l on, of n turns in all; of the deeds the first q; (best deed, breakfast), none so far: none -/
def zplay : Nat → Nat → zC → Nat
  | 0, _, C => zbrk C
  | f + 1, l, C => ((List.range (C 0 1 + 1)).foldl (fun (a : Option (Nat × Nat)) q => if q = C 0 1 ∨ C 9 q = 0 then (match a with
      | none => some (q, zplay f (l + 1) (zdeed C l q))
      | some s => if (if l % 2 = 0 then zplay f (l + 1) (zdeed C l q) < s.2 else s.2 < zplay f (l + 1) (zdeed C l q)) then some (q, zplay f (l + 1) (zdeed C l q)) else some s) else a) none).elim 0 Prod.snd
