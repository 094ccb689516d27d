/-! the reference: texts begun; camps read -/
/-- a failure's kind is a number from 1 to 9 -/
def zRk {α : Type} (r : zR α) : Prop := ∀ e, r = .inl e → 0 < e.1 ∧ e.1 < 10
theorem zRk.bd {α β : Type} {r : zR α} {f : α → zR β} (h : zRk r) (hf : ∀ a, zRk (f a)) : zRk (zbd r f) := by
  cases r with
  | inl e => exact fun e' h' => by cases h'; exact h e rfl
  | inr a => exact hf a
theorem zRk.r {α : Type} {a : α} : zRk (.inr a) := fun e h => by cases h
theorem zRk.no {α : Type} {B : Nat → Nat} {p f : Nat} (h1 : 0 < f) (h2 : f < 10) : zRk (α := α) (.inl (zno B p f)) := fun e h => by
  cases h
  unfold zno
  dsimp only
  split <;> omega
theorem zRk.if {α : Type} {c : Prop} [Decidable c] {a b : zR α} (ha : zRk a) (hb : zRk b) : zRk (if c then a else b) := by
  split
  · exact ha
  · exact hb
theorem zpN_k {B : Nat → Nat} {lo hi p : Nat} : zRk (zpN B lo hi p) := by
  unfold zpN
  split
  · exact .no (by decide) (by decide)
  · split
    · exact .no (by decide) (by decide)
    · exact .r
theorem zpS_k {B : Nat → Nat} {c p : Nat} : zRk (zpS B c p) := by
  unfold zpS
  split
  · exact .r
  · exact .no (by decide) (by decide)
theorem zpK_k {B : Nat → Nat} {c p : Nat} : zRk (zpK B c p) := by
  unfold zpK
  split
  · exact .r
  · exact .no (by decide) (by decide)
theorem zpB_k {B : Nat → Nat} {N : Nat → List Nat} {m p : Nat} : zRk (zpB B N m p) := by
  unfold zpB
  split
  · exact .no (by decide) (by decide)
  · split
    · exact .no (by decide) (by decide)
    · exact .r
theorem zpP_k {B : Nat → Nat} {k d p : Nat} : zRk (zpP B k d p) := by
  unfold zpP
  split
  · exact zpN_k
  · exact .r
theorem zpPart_k {B : Nat → Nat} {s : zS} {p : Nat} : zRk (zpPart B s p) := by
  refine zRk.bd ?_ (fun a => zRk.bd zpS_k fun _ => .r)
  unfold zpPart0
  split
  · split
    · exact .no (by decide) (by decide)
    · exact zRk.bd (zpN_k.bd fun _ => zpK_k.bd fun _ => zpN_k.bd fun _ => .r) fun _ => .r
  · split
    · split
      · exact .no (by decide) (by decide)
      · exact zpN_k.bd fun _ => .r
    · split
      · refine zRk.bd ?_ fun _ => .r
        unfold zpBoy
        split
        · exact .no (by decide) (by decide)
        · split
          · exact .no (by decide) (by decide)
          · split
            · exact .no (by decide) (by decide)
            · exact zRk.bd (zpK_k.bd fun _ => zpN_k.bd fun _ => zpK_k.bd fun _ => zpN_k.bd fun _ => zpP_k.bd fun _ => zpP_k.bd fun _ => .r) fun _ => .r
      · split
        · refine zRk.bd ?_ fun _ => .r
          unfold zpQuar
          split
          · exact .no (by decide) (by decide)
          · refine zpB_k.bd fun _ => zpB_k.bd fun _ => ?_
            split
            · exact .no (by decide) (by decide)
            · exact zpK_k.bd fun _ => zpN_k.bd fun _ => .r
        · exact .no (by decide) (by decide)
theorem zpCamp_k {B : Nat → Nat} : ∀ f s p, zRk (zpCamp B f s p)
  | 0, _, _ => .r
  | f + 1, s, p => by
    rw [zpCamp]
    split
    · exact .r
    · exact zpPart_k.bd fun _ => zpCamp_k f _ _
theorem zpTest_k {B : Nat → Nat} {N : Nat → List Nat} {m p : Nat} : zRk (zpTest B N m p) := by
  unfold zpTest
  split
  · exact .no (by decide) (by decide)
  · split
    · exact zpB_k.bd fun _ => .r
    · split
      · exact zpN_k.bd fun _ => .r
      · exact .no (by decide) (by decide)
theorem zpRow_k {B : Nat → Nat} {N : Nat → List Nat} {m cells k p : Nat} : zRk (zpRow B N m cells k p) := by
  unfold zpRow
  split
  · exact zpN_k.bd fun _ => .r
  · split
    · exact zpB_k.bd fun _ => zpB_k.bd fun _ => zpN_k.bd fun _ => .r
    · split
      · exact zpB_k.bd fun _ => .r
      · split
        · exact zpB_k.bd fun _ => zpN_k.bd fun _ => .r
        · split
          · exact zpN_k.bd fun _ => .r
          · split
            · exact zpTest_k
            · exact .r
theorem zpStep_k {B : Nat → Nat} {N : Nat → List Nat} {m cells : Nat} {s : zQ} {p : Nat} : zRk (zpStep B N m cells s p) := by
  unfold zpStep
  split
  · next f hf =>
    unfold zpBegin at hf
    split at hf
    · cases hf; exact .no (by decide) (by decide)
    · split at hf
      · cases hf; exact .no (by decide) (by decide)
      · split at hf
        · cases hf; exact .no (by decide) (by decide)
        · cases hf
  · exact zpRow_k.bd fun _ => zpS_k.bd fun _ => .r
theorem zpWeeks_k {B : Nat → Nat} {N : Nat → List Nat} {m cells : Nat} : ∀ f s p, zRk (zpWeeks B N m cells f s p)
  | 0, _, _ => .r
  | f + 1, s, p => by
    rw [zpWeeks]
    split
    · split
      · exact .r
      · exact .no (by decide) (by decide)
    · exact zpStep_k.bd fun _ => zpWeeks_k f _ _
-- a text begun
def zPbg (a j : Nat) : Prop := a = 146 ∨ (a = 139 ∧ (j = 12 ∨ j = 13 ∨ j = 14 ∨ j = 15 ∨ j = 18 ∨ j = 17 ∨ j = 11 ∨ j = 10 ∨ j = 19))
def zbeg (t : zTp) (x : Int32) (most : Nat) : Bool := zih x 0 t.1 && zih x 0 most
set_option maxRecDepth 20000 in
theorem m_begins {σ : qSg} {t : zTp} (ht : zTpW t) (hp : zTape σ t) (x : Int32) {most : Nat} (hm : most ≤ 900) : qCI 3 235 [qr 139, qi x, qi (nI most)] σ (fun r σ' => if zbeg t x most = true then r = nI 1 ∧ zPd σ' (ztx t.2 x.toInt.toNat) x.toInt.toNat 0 ∧ σ'.1 139 10 = nI 0 ∧ zF zPbg σ σ' else r = nI 0 ∧ σ' = σ) := by
  have h900 := ht.1
  refine qCI.of [some (qr 139), some (qi x), some (qi (nI most)), none] ok_235 (Nat.le_of_ble_eq_true rfl) rfl ?_
  refine qV.go 30 [17, 19] ok_235 ?_
  simp only [qW_nop, qW_iconst, qW_iconstm, qW_iloadn, qW_aloadn, qW_istoren, qW_iinc, qW_iflt, qW_icge, qW_icgt, qW_icle, qW_goto, qW_getf, qW_bald, qW_bast, qW_cv1_2, qW_iret1, qW_putf0, Nat.reduceAdd, Nat.reduceMul, Nat.reduceBEq, Nat.reduceEqDiff, Nat.reduceLT, Nat.reduceLeDiff, Nat.zero_le, nI_add, nI_mul, nI_cl, qin_eq, qofI, qlg_0, qlg_s, qls_i0, qls_r0, qls_l0, qls_1, qls_2, qkl_i, qkl_r, qkl_l, qkl_n, qIsI_i, qIsL_l, qIsR_r, qint_i, qil_i, qil_r, qil_l, qf4_0, qf4_1, qf4_2, qf4_3, qf2_0, qf2_1, qcs_n, qcs_i, qcs_r, qcs_l, qst_n, qst_c, qJ_0, qJ_st, qJ_go, qfl_I, qfl_Z, qfl_L, qfl_R, qrI_i, qrL_l, qrV_v, qRcv_0, qRcv_s, eq_self, true_and, and_true, true_or, or_true, false_and, and_false, false_or, or_false, ite_true, if_true, if_false, Bool.true_or, Bool.false_or, Bool.or_false, beq_self_eq_true, Bool.false_eq_true, bX12_begins_0, bX12_begins_17, bX12_begins_19, bX12_begins_26, bX12_begins_49, kX12_begins_0, kX12_begins_17, kX12_begins_19, kX12_begins_26, kX12_begins_49, qK_139, qR_139_0, qK_140, qR_139_1, qK_141, qR_139_5, qK_142, qR_139_6, qK_143, qR_139_7, qK_144, qR_139_8, qK_145, qR_139_9, qK_146, qR_139_21, qK_147, qR_139_25, qK_148, qR_139_30, qK_149, qR_139_31, qK_150, qR_139_33, qK_151, qR_139_34, qK_152, qR_139_35, qK_153, qR_139_36, qK_154, qR_139_39, qK_155, qR_139_40, qK_156, qR_139_41, qK_157]
  rw [hp.1]
  have no : zbeg t x most = false → qV 235 3 (.inl fun r σ' => if zbeg t x most = true then r = nI 1 ∧ zPd σ' (ztx t.2 x.toInt.toNat) x.toInt.toNat 0 ∧ σ'.1 139 10 = nI 0 ∧ zF zPbg σ σ' else r = nI 0 ∧ σ' = σ) 17 [some (qr 139), some (qi x), some (qi (nI most)), none] [] σ := by
    intro hb
    refine qV.go 30 [9999] ok_235 ?_
    simp only [qW_nop, qW_iconst, qW_iconstm, qW_iloadn, qW_aloadn, qW_istoren, qW_iinc, qW_iflt, qW_icge, qW_icgt, qW_icle, qW_goto, qW_getf, qW_bald, qW_bast, qW_cv1_2, qW_iret1, qW_putf0, Nat.reduceAdd, Nat.reduceMul, Nat.reduceBEq, Nat.reduceEqDiff, Nat.reduceLT, Nat.reduceLeDiff, Nat.zero_le, nI_add, nI_mul, nI_cl, qin_eq, qofI, qlg_0, qlg_s, qls_i0, qls_r0, qls_l0, qls_1, qls_2, qkl_i, qkl_r, qkl_l, qkl_n, qIsI_i, qIsL_l, qIsR_r, qint_i, qil_i, qil_r, qil_l, qf4_0, qf4_1, qf4_2, qf4_3, qf2_0, qf2_1, qcs_n, qcs_i, qcs_r, qcs_l, qst_n, qst_c, qJ_0, qJ_st, qJ_go, qfl_I, qfl_Z, qfl_L, qfl_R, qrI_i, qrL_l, qrV_v, qRcv_0, qRcv_s, eq_self, true_and, and_true, true_or, or_true, false_and, and_false, false_or, or_false, ite_true, if_true, if_false, Bool.true_or, Bool.false_or, Bool.or_false, beq_self_eq_true, Bool.false_eq_true, bX12_begins_0, bX12_begins_17, bX12_begins_19, bX12_begins_26, bX12_begins_49, kX12_begins_0, kX12_begins_17, kX12_begins_19, kX12_begins_26, kX12_begins_49, qK_139, qR_139_0, qK_140, qR_139_1, qK_141, qR_139_5, qK_142, qR_139_6, qK_143, qR_139_7, qK_144, qR_139_8, qK_145, qR_139_9, qK_146, qR_139_21, qK_147, qR_139_25, qK_148, qR_139_30, qK_149, qR_139_31, qK_150, qR_139_33, qK_151, qR_139_34, qK_152, qR_139_35, qK_153, qR_139_36, qK_154, qR_139_39, qK_155, qR_139_40, qK_156, qR_139_41, qK_157]
    rw [hb, if_neg (by decide)]
    trivial
  have z0 : (0 : Int32).toInt = 0 := rfl
  simp only [z0, qlt, qle, nI_t (show t.1 < 2147483648 by omega), nI_t (show most < 2147483648 by omega)]
  refine ⟨fun h1 => no (by simp [zbeg, zih]; omega), fun h1 => ⟨fun h2 => no (by simp [zbeg, zih]; omega), fun h2 => ⟨fun h3 => ?_, fun h3 => no (by simp [zbeg, zih]; omega)⟩⟩⟩
  have hb : zbeg t x most = true := by simp [zbeg, zih]; omega
  obtain ⟨k, k1, k2, rfl⟩ := zih_nI (x := x) (lo := 0) (hi := t.1) (by simp [zih]; omega)
  rw [nI_tn (by omega)]
  simp only [if_pos hb]
  have hB := ztx_W ht k2
  refine qV.go 30 [26] ok_235 ?_
  simp only [qW_nop, qW_iconst, qW_iconstm, qW_iloadn, qW_aloadn, qW_istoren, qW_iinc, qW_iflt, qW_icge, qW_icgt, qW_icle, qW_goto, qW_getf, qW_bald, qW_bast, qW_cv1_2, qW_iret1, qW_putf0, Nat.reduceAdd, Nat.reduceMul, Nat.reduceBEq, Nat.reduceEqDiff, Nat.reduceLT, Nat.reduceLeDiff, Nat.zero_le, nI_add, nI_mul, nI_cl, qin_eq, qofI, qlg_0, qlg_s, qls_i0, qls_r0, qls_l0, qls_1, qls_2, qkl_i, qkl_r, qkl_l, qkl_n, qIsI_i, qIsL_l, qIsR_r, qint_i, qil_i, qil_r, qil_l, qf4_0, qf4_1, qf4_2, qf4_3, qf2_0, qf2_1, qcs_n, qcs_i, qcs_r, qcs_l, qst_n, qst_c, qJ_0, qJ_st, qJ_go, qfl_I, qfl_Z, qfl_L, qfl_R, qrI_i, qrL_l, qrV_v, qRcv_0, qRcv_s, eq_self, true_and, and_true, true_or, or_true, false_and, and_false, false_or, or_false, ite_true, if_true, if_false, Bool.true_or, Bool.false_or, Bool.or_false, beq_self_eq_true, Bool.false_eq_true, bX12_begins_0, bX12_begins_17, bX12_begins_19, bX12_begins_26, bX12_begins_49, kX12_begins_0, kX12_begins_17, kX12_begins_19, kX12_begins_26, kX12_begins_49, qK_139, qR_139_0, qK_140, qR_139_1, qK_141, qR_139_5, qK_142, qR_139_6, qK_143, qR_139_7, qK_144, qR_139_8, qK_145, qR_139_9, qK_146, qR_139_21, qK_147, qR_139_25, qK_148, qR_139_30, qK_149, qR_139_31, qK_150, qR_139_33, qK_151, qR_139_34, qK_152, qR_139_35, qK_153, qR_139_36, qK_154, qR_139_39, qK_155, qR_139_40, qK_156, qR_139_41, qK_157]
  refine qdown (n := k) (P := fun j => ∀ σ1, (∀ i, i < j → σ1.1 146 i = zby (t.2 i)) → σ1.1 139 11 = nI k → zF zPbg σ σ1 → qV 235 3 (.inl fun r σ' => r = nI 1 ∧ zPd σ' (ztx t.2 k) k 0 ∧ σ'.1 139 10 = nI 0 ∧ zF zPbg σ σ') 26 [some (qr 139), some (qi (nI k)), some (qi (nI most)), some (qi (nI j))] [] σ1) (fun j hj ih => ?_) 0 (Nat.zero_le _) _ (fun i hi => absurd hi (Nat.not_lt_zero _)) (by rw [qwi_1, if_pos ⟨rfl, rfl⟩]) (zF.wi (Or.inr ⟨rfl, by decide⟩))
  intro σ1 a1 a2 f1
  refine qV.go 30 [26] ok_235 ?_
  simp only [qW_nop, qW_iconst, qW_iconstm, qW_iloadn, qW_aloadn, qW_istoren, qW_iinc, qW_iflt, qW_icge, qW_icgt, qW_icle, qW_goto, qW_getf, qW_bald, qW_bast, qW_cv1_2, qW_iret1, qW_putf0, Nat.reduceAdd, Nat.reduceMul, Nat.reduceBEq, Nat.reduceEqDiff, Nat.reduceLT, Nat.reduceLeDiff, Nat.zero_le, nI_add, nI_mul, nI_cl, qin_eq, qofI, qlg_0, qlg_s, qls_i0, qls_r0, qls_l0, qls_1, qls_2, qkl_i, qkl_r, qkl_l, qkl_n, qIsI_i, qIsL_l, qIsR_r, qint_i, qil_i, qil_r, qil_l, qf4_0, qf4_1, qf4_2, qf4_3, qf2_0, qf2_1, qcs_n, qcs_i, qcs_r, qcs_l, qst_n, qst_c, qJ_0, qJ_st, qJ_go, qfl_I, qfl_Z, qfl_L, qfl_R, qrI_i, qrL_l, qrV_v, qRcv_0, qRcv_s, eq_self, true_and, and_true, true_or, or_true, false_and, and_false, false_or, or_false, ite_true, if_true, if_false, Bool.true_or, Bool.false_or, Bool.or_false, beq_self_eq_true, Bool.false_eq_true, bX12_begins_0, bX12_begins_17, bX12_begins_19, bX12_begins_26, bX12_begins_49, kX12_begins_0, kX12_begins_17, kX12_begins_19, kX12_begins_26, kX12_begins_49, qK_139, qR_139_0, qK_140, qR_139_1, qK_141, qR_139_5, qK_142, qR_139_6, qK_143, qR_139_7, qK_144, qR_139_8, qK_145, qR_139_9, qK_146, qR_139_21, qK_147, qR_139_25, qK_148, qR_139_30, qK_149, qR_139_31, qK_150, qR_139_33, qK_151, qR_139_34, qK_152, qR_139_35, qK_153, qR_139_36, qK_154, qR_139_39, qK_155, qR_139_40, qK_156, qR_139_41, qK_157]
  simp (disch := omega) only [nI_leI, nI_ltI, nI_eq, nI_cl, qin_eq, nI_add, nI_mul, qb_z, qb_t, qb_f, nI_ne0', Nat.reduceAdd, Bool.false_eq_true, if_false, if_true, true_and, and_true, Nat.reduceEqDiff, not_true_eq_false, not_false_eq_true, false_implies, true_implies, ite_true, ite_false]
  refine ⟨fun g => ?_, fun g => ?_⟩
  · have ej : j = k := by omega
    subst ej
    have tt : zTt (qwi (qwi (qwi (qwi (qwi σ1 139 10 (nI 0)) 139 18 (nI 0)) 139 17 (iI (-1))) 139 14 (nI 0)) 139 19 (nI 0)) (ztx t.2 j) j := by
      refine ⟨fun i hi => ?_, ?_⟩
      · rw [qwi_1, if_neg (by omega), qwi_1, if_neg (by omega), qwi_1, if_neg (by omega), qwi_1, if_neg (by omega), qwi_1, if_neg (by omega), a1 i hi]
        unfold ztx
        rw [if_pos hi]
      · rw [qwi_1, if_neg (by omega), qwi_1, if_neg (by omega), qwi_1, if_neg (by omega), qwi_1, if_neg (by omega), qwi_1, if_neg (by omega)]
        exact a2
    have ff : zF zPbg σ (qwi (qwi (qwi (qwi (qwi σ1 139 10 (nI 0)) 139 18 (nI 0)) 139 17 (iI (-1))) 139 14 (nI 0)) 139 19 (nI 0)) := ((((f1.tr (zF.wi (Or.inr ⟨rfl, by decide⟩))).tr (zF.wi (Or.inr ⟨rfl, by decide⟩))).tr (zF.wi (Or.inr ⟨rfl, by decide⟩))).tr (zF.wi (Or.inr ⟨rfl, by decide⟩))).tr (zF.wi (Or.inr ⟨rfl, by decide⟩))
    have b1 : (qwi (qwi (qwi (qwi (qwi σ1 139 10 (nI 0)) 139 18 (nI 0)) 139 17 (iI (-1))) 139 14 (nI 0)) 139 19 (nI 0)).1 139 10 = nI 0 := by
      rw [qwi_1, if_neg (by omega), qwi_1, if_neg (by omega), qwi_1, if_neg (by omega), qwi_1, if_neg (by omega), qwi_1, if_pos ⟨rfl, rfl⟩]
    have b2 : (qwi (qwi (qwi (qwi (qwi σ1 139 10 (nI 0)) 139 18 (nI 0)) 139 17 (iI (-1))) 139 14 (nI 0)) 139 19 (nI 0)).1 139 18 = nI 0 := by
      rw [qwi_1, if_neg (by omega), qwi_1, if_neg (by omega), qwi_1, if_neg (by omega), qwi_1, if_pos ⟨rfl, rfl⟩]
    have b3 : (qwi (qwi (qwi (qwi (qwi σ1 139 10 (nI 0)) 139 18 (nI 0)) 139 17 (iI (-1))) 139 14 (nI 0)) 139 19 (nI 0)).1 139 17 = iI (-1) := by
      rw [qwi_1, if_neg (by omega), qwi_1, if_neg (by omega), qwi_1, if_pos ⟨rfl, rfl⟩]
    have b4 : (qwi (qwi (qwi (qwi (qwi σ1 139 10 (nI 0)) 139 18 (nI 0)) 139 17 (iI (-1))) 139 14 (nI 0)) 139 19 (nI 0)).1 139 14 = nI 0 := by
      rw [qwi_1, if_neg (by omega), qwi_1, if_pos ⟨rfl, rfl⟩]
    generalize qwi (qwi (qwi (qwi (qwi σ1 139 10 (nI 0)) 139 18 (nI 0)) 139 17 (iI (-1))) 139 14 (nI 0)) 139 19 (nI 0) = σ2 at tt ff b1 b2 b3 b4 ⊢
    refine qBV.of (m_ahead hB tt (Nat.zero_le _) b4) (by decide) (fun σ3 g3 => ?_)
    refine ⟨⟨g3.1, ?_, ?_⟩, ?_, ff.tr (g3.2.wk fun a j h => ?_)⟩
    · rw [g3.2.1 _ _ (by unfold zPa; omega)]; exact b2
    · rw [g3.2.1 _ _ (by unfold zPa; omega)]; exact b3
    · rw [g3.2.1 _ _ (by unfold zPa; omega)]; exact b1
    · unfold zPa at h
      unfold zPbg
      omega
  · have hv : σ1.1 145 j = zby (t.2 j) := by rw [f1.1 _ _ (by unfold zPbg; omega)]; exact hp.2 j (by omega)
    rw [hv, zby_by (ht.2 j)]
    have := ih (by omega) (qwi σ1 146 j (zby (t.2 j))) (fun i hi => ?_) ?_ (f1.tr (zF.wi (Or.inl rfl)))
    · exact ⟨qin_n (by omega) (by decide), qin_n (by omega) (by decide), this⟩
    · rw [qwi_1]
      by_cases e : i = j
      · subst e; rw [if_pos ⟨rfl, rfl⟩]
      · rw [if_neg (by omega)]; exact a1 i (by omega)
    · rw [qwi_1, if_neg (by omega)]; exact a2
