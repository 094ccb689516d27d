/-! the class: the text, its signs and words -/
def zc0 (c : Nat) : Nat := if c = 999 then 0 else c
theorem zc0_lt {B : Nat → Nat} {n : Nat} (hB : zBW B n) (k : Nat) : zc0 (B k) < 256 := by
  unfold zc0
  rcases zB_lt hB k with h | h
  · split <;> omega
  · rw [if_pos h.1]; decide
theorem zc0_sm (c : Nat) : zsm (zc0 c) = zsm c := by
  unfold zc0
  split
  · next h => subst h; rfl
  · rfl
theorem zc0_di (c : Nat) : zdi (zc0 c) = zdi c := by
  unfold zc0
  split
  · next h => subst h; rfl
  · rfl
theorem zc0_si (c : Nat) : zsi (zc0 c) = zsi c := by
  unfold zc0
  split
  · next h => subst h; rfl
  · rfl
theorem zc0_bl (c : Nat) : zbl (zc0 c) = zbl c := by
  unfold zc0
  split
  · next h => subst h; rfl
  · rfl
/-- the class's words that are no names, in its order -/
def zcw : List (List Nat) := [[102, 105, 101, 108, 100], [98, 121], [111, 100, 100, 115], [98, 111, 121], [97, 116], [112, 114, 105, 100, 101], [115, 111, 102, 116], [101, 97, 114, 115], [113, 117, 97, 114, 114, 101, 108], [103, 114, 117, 100, 103, 101], [109, 105, 110, 117, 116, 101], [100, 97, 119, 110], [121, 105, 101, 108, 100], [112, 105, 116, 99, 104], [97, 110, 121], [119, 104, 101, 110], [117, 112], [111, 112, 101, 110], [110, 111, 119], [108, 111, 111, 112], [101, 110, 100], [115, 116, 111, 112]]
/-- a word's number in the class, by that in the reference -/
def zkn (y : Nat) : Nat := [0, 2, 3, 8, 1, 4, 5, 6, 7, 9, 10, 11, 12, 13, 14, 15, 19, 20, 21, 16, 17, 18].getD y 22
def zkc (y : Nat) : Int32 := if y < 22 then nI (zkn y) else iI (-1)
theorem zkn_lt {y : Nat} (h : y < 22) : zkn y < 22 := by
  have : ∀ y, y < 22 → zkn y < 22 := by decide
  exact this y h
theorem zkn_eq {y k : Nat} (hy : y < 22) (hk : k < 22) : (zkn y = zkn k) = (y = k) := by
  have : ∀ y, y < 22 → ∀ k, k < 22 → zkn y = zkn k → y = k := by decide +kernel
  exact propext ⟨fun h => this y hy k hk h, fun h => by rw [h]⟩
theorem zkc_eq {y k : Nat} (hy : y ≤ 22) (hk : k < 22) : (zkc y = nI (zkn k)) = (y = k) := by
  have h2 := zkn_lt hk
  unfold zkc
  by_cases h : y < 22
  · have h1 := zkn_lt h
    rw [if_pos h, ← zkn_eq h hk]
    exact propext (nI_eq (by omega) (by omega))
  · rw [if_neg h, qeq, iI_toInt (by decide) (by decide), nI_t (by omega)]
    apply propext
    omega
theorem zkc_no {y : Nat} (hy : y ≤ 22) : (zkc y = iI (-1)) = (y = 22) := by
  unfold zkc
  by_cases h : y < 22
  · have h1 := zkn_lt h
    rw [if_pos h, qeq, iI_toInt (by decide) (by decide), nI_t (by omega)]
    apply propext
    omega
  · rw [if_neg h]
    exact propext ⟨fun _ => by omega, fun _ => rfl⟩
theorem zix_nin (w : List Nat) : ∀ l, w ∉ l → zix w l = l.length
  | [], _ => rfl
  | x :: l, h => by
    have h0 : x ≠ w := fun e => h (by rw [e]; exact List.mem_cons_self)
    simp only [zix, if_neg h0, List.length_cons]
    rw [zix_nin w l (fun h1 => h (List.mem_cons_of_mem _ h1))]
theorem zkc_ix (w : List Nat) : zkc (zix w zkw) = if zix w zcw < 22 then nI (zix w zcw) else iI (-1) := by
  by_cases h : w ∈ zkw
  · have : ∀ x ∈ zkw, zkn (zix x zkw) = zix x zcw ∧ zix x zkw < 22 ∧ zix x zcw < 22 := by decide +kernel
    obtain ⟨h1, h2, h3⟩ := this w h
    unfold zkc
    rw [if_pos h2, if_pos h3, h1]
  · have h2 : w ∉ zcw := fun h3 => h (by
      have : ∀ x ∈ zcw, x ∈ zkw := by decide +kernel
      exact this w h3)
    rw [zix_nin w zkw h, zix_nin w zcw h2]
    rfl
-- the text's object: 50; tape 51; the words 52
def zXw (σ : qSg) : Prop := ∀ i, i < 22 → σ.2 52 i = lN (zcg 32 96 (zcw.getD i []))
def zXr (σ : qSg) (B : Nat → Nat) (n : Nat) : Prop := σ.1 50 2 = nI n ∧ (∀ k, k < n → σ.1 51 k = zby (B k)) ∧ zXw σ
theorem zXr.f {σ σ' : qSg} {B : Nat → Nat} {n : Nat} {P R : Nat → Nat → Prop} (h : zXr σ B n) (f : zG P R σ σ') (h1 : ¬ P 50 2) (h2 : ∀ j, ¬ P 51 j) (h3 : ∀ j, ¬ R 52 j) : zXr σ' B n :=
  ⟨by rw [f.1 _ _ h1]; exact h.1, fun k hk => by rw [f.1 _ _ (h2 k)]; exact h.2.1 k hk, fun i hi => by rw [f.2 _ _ (h3 i)]; exact h.2.2 i hi⟩
set_option maxRecDepth 20000 in
theorem x_signAt {σ : qSg} {B : Nat → Nat} {n : Nat} (hB : zBW B n) (h : zXr σ B n) {k : Nat} (hk : k < 100000) : qFI 1 92 [qr 50, qi (nI k)] σ (nI (zc0 (B k))) := by
  have h900 := hB.1
  refine qCI.of [some (qr 50), some (qi (nI k))] ok_92 (Nat.le_of_ble_eq_true rfl) rfl ?_
  refine qV.go 30 [9999] ok_92 ?_
  simp only [qW_nop, qW_iconst, qW_sipush, qW_iloadn, qW_aloadn, qW_iand, qW_iflt, qW_icge, qW_goto, qW_getf, qW_bald, qW_iret0, Nat.reduceAdd, Nat.reduceMul, Nat.reduceBEq, Nat.reduceEqDiff, Nat.reduceLT, Nat.reduceLeDiff, Nat.zero_le, nI_add, nI_mul, nI_cl, qin_eq, qofI, qlg_0, qlg_s, qls_i0, qls_r0, qls_l0, qls_1, qls_2, qkl_i, qkl_r, qkl_l, qkl_n, qIsI_i, qIsL_l, qIsR_r, qint_i, qil_i, qil_r, qil_l, qf4_0, qf4_1, qf4_2, qf4_3, qf2_0, qf2_1, qcs_n, qcs_i, qcs_r, qcs_l, qst_n, qst_c, qJ_0, qJ_st, qJ_go, qfl_I, qfl_Z, qfl_L, qfl_R, qrI_i, qrL_l, qrV_v, qRcv_0, qRcv_s, eq_self, true_and, and_true, true_or, or_true, false_and, and_false, false_or, or_false, ite_true, if_true, if_false, Bool.true_or, Bool.false_or, Bool.or_false, beq_self_eq_true, Bool.false_eq_true, bX7_signAt_0, bX7_signAt_25, bX7_signAt_26, kX7_signAt_0, kX7_signAt_25, kX7_signAt_26, qK_50, qR_50_0, qK_51, qR_50_13, qK_52]
  rw [h.1]
  simp only [z0i, qlt, qle, nI_t (show n < 2147483648 by omega), nI_t (show k < 2147483648 by omega)]
  refine ⟨fun g => absurd g (by omega), fun _ => ⟨fun g => ?_, fun g => ?_⟩⟩
  · unfold zc0
    rw [hB.2.2 k (by omega)]
    rfl
  · have h2 := hB.2.1 k (by omega)
    rw [nI_cl (by omega), h.2.1 k (by omega), zby_and h2]
    refine ⟨qin_n (by omega) (by decide), ?_⟩
    unfold zc0
    rw [if_neg (by omega)]
set_option maxRecDepth 20000 in
theorem x_isLetter (σ : qSg) {c : Nat} (hc : c < 1000) : qFI 1 96 [qi (nI c)] σ (qb (zsm c)) := by
  refine qCI.of [some (qi (nI c))] ok_96 (Nat.le_of_ble_eq_true rfl) rfl ?_
  refine qV.go 30 [9999] ok_96 ?_
  simp only [qW_nop, qW_iconst, qW_bipush, qW_iloadn, qW_iclt, qW_icgt, qW_goto, qW_iret1, Nat.reduceAdd, Nat.reduceMul, Nat.reduceBEq, Nat.reduceEqDiff, Nat.reduceLT, Nat.reduceLeDiff, Nat.zero_le, nI_add, nI_mul, nI_cl, qin_eq, qofI, qlg_0, qlg_s, qls_i0, qls_r0, qls_l0, qls_1, qls_2, qkl_i, qkl_r, qkl_l, qkl_n, qIsI_i, qIsL_l, qIsR_r, qint_i, qil_i, qil_r, qil_l, qf4_0, qf4_1, qf4_2, qf4_3, qf2_0, qf2_1, qcs_n, qcs_i, qcs_r, qcs_l, qst_n, qst_c, qJ_0, qJ_st, qJ_go, qfl_I, qfl_Z, qfl_L, qfl_R, qrI_i, qrL_l, qrV_v, qRcv_0, qRcv_s, eq_self, true_and, and_true, true_or, or_true, false_and, and_false, false_or, or_false, ite_true, if_true, if_false, Bool.true_or, Bool.false_or, Bool.or_false, beq_self_eq_true, Bool.false_eq_true, bX7_isLetter_0, bX7_isLetter_16, bX7_isLetter_17, kX7_isLetter_0, kX7_isLetter_16, kX7_isLetter_17]
  simp only [qlt, nI_t (show c < 2147483648 by omega), nI_t (show 97 < 2147483648 by decide), nI_t (show 122 < 2147483648 by decide)]
  unfold zsm
  by_cases h1 : 97 ≤ c <;> by_cases h2 : c ≤ 122 <;> simp [h1, h2, qb] <;> omega
set_option maxRecDepth 20000 in
theorem x_isDigit (σ : qSg) {c : Nat} (hc : c < 1000) : qFI 1 97 [qi (nI c)] σ (qb (zdi c)) := by
  refine qCI.of [some (qi (nI c))] ok_97 (Nat.le_of_ble_eq_true rfl) rfl ?_
  refine qV.go 30 [9999] ok_97 ?_
  simp only [qW_nop, qW_iconst, qW_bipush, qW_iloadn, qW_iclt, qW_icgt, qW_goto, qW_iret1, Nat.reduceAdd, Nat.reduceMul, Nat.reduceBEq, Nat.reduceEqDiff, Nat.reduceLT, Nat.reduceLeDiff, Nat.zero_le, nI_add, nI_mul, nI_cl, qin_eq, qofI, qlg_0, qlg_s, qls_i0, qls_r0, qls_l0, qls_1, qls_2, qkl_i, qkl_r, qkl_l, qkl_n, qIsI_i, qIsL_l, qIsR_r, qint_i, qil_i, qil_r, qil_l, qf4_0, qf4_1, qf4_2, qf4_3, qf2_0, qf2_1, qcs_n, qcs_i, qcs_r, qcs_l, qst_n, qst_c, qJ_0, qJ_st, qJ_go, qfl_I, qfl_Z, qfl_L, qfl_R, qrI_i, qrL_l, qrV_v, qRcv_0, qRcv_s, eq_self, true_and, and_true, true_or, or_true, false_and, and_false, false_or, or_false, ite_true, if_true, if_false, Bool.true_or, Bool.false_or, Bool.or_false, beq_self_eq_true, Bool.false_eq_true, bX7_isDigit_0, bX7_isDigit_16, bX7_isDigit_17, kX7_isDigit_0, kX7_isDigit_16, kX7_isDigit_17]
  simp only [qlt, nI_t (show c < 2147483648 by omega), nI_t (show 48 < 2147483648 by decide), nI_t (show 57 < 2147483648 by decide)]
  unfold zdi
  by_cases h1 : 48 ≤ c <;> by_cases h2 : c ≤ 57 <;> simp [h1, h2, qb] <;> omega
theorem nI_l' {m : Nat} (hm : m < 2147483648) : (nI m).toInt64 = lN m := by
  apply Int64.toInt_inj.mp
  rw [qi2l, nI_t hm, lN_t' (by omega)]
set_option maxRecDepth 20000 in
theorem x_withLetter (σ : qSg) (v : Nat) {c : Nat} (hc : zsm c = true) : qFL 1 88 [ql (lN v), qi (nI c)] σ (lN (v * 32 + (c - 96))) := by
  have h := zcg_32 c hc
  refine qCL.of [some (ql (lN v)), none, some (qi (nI c))] ok_88 (Nat.le_of_ble_eq_true rfl) rfl ?_
  refine qV.go 30 [9999] ok_88 ?_
  simp only [qW_nop, qW_iconst, qW_bipush, qW_ldc2, qW_iloadn, qW_lloadn, qW_iadd, qW_isub, qW_ladd, qW_lmul, qW_i2l, qW_lret, Nat.reduceAdd, Nat.reduceMul, Nat.reduceBEq, Nat.reduceEqDiff, Nat.reduceLT, Nat.reduceLeDiff, Nat.zero_le, nI_add, nI_mul, nI_cl, qin_eq, qofI, qlg_0, qlg_s, qls_i0, qls_r0, qls_l0, qls_1, qls_2, qkl_i, qkl_r, qkl_l, qkl_n, qIsI_i, qIsL_l, qIsR_r, qint_i, qil_i, qil_r, qil_l, qf4_0, qf4_1, qf4_2, qf4_3, qf2_0, qf2_1, qcs_n, qcs_i, qcs_r, qcs_l, qst_n, qst_c, qJ_0, qJ_st, qJ_go, qfl_I, qfl_Z, qfl_L, qfl_R, qrI_i, qrL_l, qrV_v, qRcv_0, qRcv_s, eq_self, true_and, and_true, true_or, or_true, false_and, and_false, false_or, or_false, ite_true, if_true, if_false, Bool.true_or, Bool.false_or, Bool.or_false, beq_self_eq_true, Bool.false_eq_true, bX7_withLetter_0, kX7_withLetter_0]
  have e : nI c - nI 97 + nI 1 = nI (c - 96) := by
    rw [iI_nat, iI_nat, iI_nat, iI_sub, iI_add, iI_nat]
    congr 1
    omega
  rw [e, nI_l' (by omega), lN_mul, lN_add]
set_option maxRecDepth 20000 in
theorem x_reserved {σ : qSg} (h : zXw σ) {w : List Nat} (hw : zNm w) : qFI 1 98 [qr 50, ql (lN (zcg 32 96 w))] σ (zkc (zix w zkw)) := by
  have sm : ∀ i, i < 22 → (∀ c, c ∈ zcw.getD i [] → zsm c = true) ∧ (zcw.getD i []).length ≤ 8 := by decide +kernel
  have cb : ∀ w, zNm w → zcg 32 96 w < 9223372036854775808 := fun w hw => Nat.lt_of_lt_of_le (zcg_lt (by decide) zcg_32 w.length w rfl hw.2) (Nat.le_trans (Nat.pow_le_pow_right (by decide) hw.1) (Nat.le_of_ble_eq_true rfl : 32 ^ 8 ≤ 9223372036854775808))
  refine qCI.of [some (qr 50), some (ql (lN (zcg 32 96 w))), none, none] ok_98 (Nat.le_of_ble_eq_true rfl) rfl ?_
  refine qV.go 30 [2] ok_98 ?_
  simp only [qW_nop, qW_iconst, qW_iconstm, qW_bipush, qW_iloadn, qW_lloadn, qW_aloadn, qW_istoren, qW_iinc, qW_lcmp, qW_ifne, qW_icge, qW_goto, qW_getf, qW_lald, qW_iret0, Nat.reduceAdd, Nat.reduceMul, Nat.reduceBEq, Nat.reduceEqDiff, Nat.reduceLT, Nat.reduceLeDiff, Nat.zero_le, nI_add, nI_mul, nI_cl, qin_eq, qofI, qlg_0, qlg_s, qls_i0, qls_r0, qls_l0, qls_1, qls_2, qkl_i, qkl_r, qkl_l, qkl_n, qIsI_i, qIsL_l, qIsR_r, qint_i, qil_i, qil_r, qil_l, qf4_0, qf4_1, qf4_2, qf4_3, qf2_0, qf2_1, qcs_n, qcs_i, qcs_r, qcs_l, qst_n, qst_c, qJ_0, qJ_st, qJ_go, qfl_I, qfl_Z, qfl_L, qfl_R, qrI_i, qrL_l, qrV_v, qRcv_0, qRcv_s, eq_self, true_and, and_true, true_or, or_true, false_and, and_false, false_or, or_false, ite_true, if_true, if_false, Bool.true_or, Bool.false_or, Bool.or_false, beq_self_eq_true, Bool.false_eq_true, bX7_reservedNumber_0, bX7_reservedNumber_2, bX7_reservedNumber_21, bX7_reservedNumber_27, kX7_reservedNumber_0, kX7_reservedNumber_2, kX7_reservedNumber_21, kX7_reservedNumber_27, qK_50, qR_50_0, qK_51, qR_50_13, qK_52]
  rw [zkc_ix]
  refine qdown (n := 22) (P := fun q => (∀ i, i < q → zcw.getD i [] ≠ w) → qV 98 1 (.inl fun r σ' => r = (if zix w zcw < 22 then nI (zix w zcw) else iI (-1)) ∧ σ' = σ) 2 [some (qr 50), some (ql (lN (zcg 32 96 w))), none, some (qi (nI q))] [] σ) (fun q hq ih => ?_) 0 (Nat.zero_le _) (fun i hi => absurd hi (Nat.not_lt_zero _))
  intro hno
  refine qV.go 30 [2] ok_98 ?_
  simp only [qW_nop, qW_iconst, qW_iconstm, qW_bipush, qW_iloadn, qW_lloadn, qW_aloadn, qW_istoren, qW_iinc, qW_lcmp, qW_ifne, qW_icge, qW_goto, qW_getf, qW_lald, qW_iret0, Nat.reduceAdd, Nat.reduceMul, Nat.reduceBEq, Nat.reduceEqDiff, Nat.reduceLT, Nat.reduceLeDiff, Nat.zero_le, nI_add, nI_mul, nI_cl, qin_eq, qofI, qlg_0, qlg_s, qls_i0, qls_r0, qls_l0, qls_1, qls_2, qkl_i, qkl_r, qkl_l, qkl_n, qIsI_i, qIsL_l, qIsR_r, qint_i, qil_i, qil_r, qil_l, qf4_0, qf4_1, qf4_2, qf4_3, qf2_0, qf2_1, qcs_n, qcs_i, qcs_r, qcs_l, qst_n, qst_c, qJ_0, qJ_st, qJ_go, qfl_I, qfl_Z, qfl_L, qfl_R, qrI_i, qrL_l, qrV_v, qRcv_0, qRcv_s, eq_self, true_and, and_true, true_or, or_true, false_and, and_false, false_or, or_false, ite_true, if_true, if_false, Bool.true_or, Bool.false_or, Bool.or_false, beq_self_eq_true, Bool.false_eq_true, bX7_reservedNumber_0, bX7_reservedNumber_2, bX7_reservedNumber_21, bX7_reservedNumber_27, kX7_reservedNumber_0, kX7_reservedNumber_2, kX7_reservedNumber_21, kX7_reservedNumber_27, qK_50, qR_50_0, qK_51, qR_50_13, qK_52]
  simp (disch := omega) only [nI_leI, nI_ltI, nI_eq, nI_cl, qin_eq, nI_add, nI_mul, qb_z, qb_t, qb_f, nI_ne0', Nat.reduceAdd, Bool.false_eq_true, if_false, if_true, true_and, and_true, Nat.reduceEqDiff, not_true_eq_false, not_false_eq_true, false_implies, true_implies, ite_true, ite_false]
  refine ⟨fun g => ?_, fun g => ?_⟩
  · have e : q = 22 := by omega
    subst e
    rw [zix_no w zcw (fun i hi => hno i hi)]
    rfl
  · have hq1 : q < 22 := by omega
    have s := sm q hq1
    have e1 : (lg_cmp (σ.2 52 q) (lN (zcg 32 96 w)) = 0) = (zcw.getD q [] = w) := by
      rw [h q hq1, qlcmp0, lN_t' (cb _ ⟨s.2, s.1⟩), lN_t' (cb _ hw)]
      apply propext
      constructor
      · intro e
        exact zcg_inj zcg_32 _ _ _ rfl s.1 hw.2 (by omega)
      · intro e
        rw [e]
    rw [e1]
    refine ⟨qin_n hq1 (by decide), fun g2 => ?_, fun g2 => ?_⟩
    · exact ih hq1 (fun i hi => by
        by_cases e : i = q
        · subst e; exact g2
        · exact hno i (by omega))
    · rw [zix_is w zcw q hq1 g2 hno, if_pos hq1]
set_option maxRecDepth 20000 in
theorem x_reservedL {σ : qSg} (h : zXw σ) : qFI 1 98 [qr 50, ql (-(lN 1))] σ (iI (-1)) := by
  have cb : ∀ i, i < 22 → zcg 32 96 (zcw.getD i []) < 9223372036854775808 := by decide +kernel
  refine qCI.of [some (qr 50), some (ql (-(lN 1))), none, none] ok_98 (Nat.le_of_ble_eq_true rfl) rfl ?_
  refine qV.go 30 [2] ok_98 ?_
  simp only [qW_nop, qW_iconst, qW_iconstm, qW_bipush, qW_iloadn, qW_lloadn, qW_aloadn, qW_istoren, qW_iinc, qW_lcmp, qW_ifne, qW_icge, qW_goto, qW_getf, qW_lald, qW_iret0, Nat.reduceAdd, Nat.reduceMul, Nat.reduceBEq, Nat.reduceEqDiff, Nat.reduceLT, Nat.reduceLeDiff, Nat.zero_le, nI_add, nI_mul, nI_cl, qin_eq, qofI, qlg_0, qlg_s, qls_i0, qls_r0, qls_l0, qls_1, qls_2, qkl_i, qkl_r, qkl_l, qkl_n, qIsI_i, qIsL_l, qIsR_r, qint_i, qil_i, qil_r, qil_l, qf4_0, qf4_1, qf4_2, qf4_3, qf2_0, qf2_1, qcs_n, qcs_i, qcs_r, qcs_l, qst_n, qst_c, qJ_0, qJ_st, qJ_go, qfl_I, qfl_Z, qfl_L, qfl_R, qrI_i, qrL_l, qrV_v, qRcv_0, qRcv_s, eq_self, true_and, and_true, true_or, or_true, false_and, and_false, false_or, or_false, ite_true, if_true, if_false, Bool.true_or, Bool.false_or, Bool.or_false, beq_self_eq_true, Bool.false_eq_true, bX7_reservedNumber_0, bX7_reservedNumber_2, bX7_reservedNumber_21, bX7_reservedNumber_27, kX7_reservedNumber_0, kX7_reservedNumber_2, kX7_reservedNumber_21, kX7_reservedNumber_27, qK_50, qR_50_0, qK_51, qR_50_13, qK_52]
  refine qdown (n := 22) (P := fun q => qV 98 1 (.inl fun r σ' => r = iI (-1) ∧ σ' = σ) 2 [some (qr 50), some (ql (-(lN 1))), none, some (qi (nI q))] [] σ) (fun q hq ih => ?_) 0 (Nat.zero_le _)
  refine qV.go 30 [2] ok_98 ?_
  simp only [qW_nop, qW_iconst, qW_iconstm, qW_bipush, qW_iloadn, qW_lloadn, qW_aloadn, qW_istoren, qW_iinc, qW_lcmp, qW_ifne, qW_icge, qW_goto, qW_getf, qW_lald, qW_iret0, Nat.reduceAdd, Nat.reduceMul, Nat.reduceBEq, Nat.reduceEqDiff, Nat.reduceLT, Nat.reduceLeDiff, Nat.zero_le, nI_add, nI_mul, nI_cl, qin_eq, qofI, qlg_0, qlg_s, qls_i0, qls_r0, qls_l0, qls_1, qls_2, qkl_i, qkl_r, qkl_l, qkl_n, qIsI_i, qIsL_l, qIsR_r, qint_i, qil_i, qil_r, qil_l, qf4_0, qf4_1, qf4_2, qf4_3, qf2_0, qf2_1, qcs_n, qcs_i, qcs_r, qcs_l, qst_n, qst_c, qJ_0, qJ_st, qJ_go, qfl_I, qfl_Z, qfl_L, qfl_R, qrI_i, qrL_l, qrV_v, qRcv_0, qRcv_s, eq_self, true_and, and_true, true_or, or_true, false_and, and_false, false_or, or_false, ite_true, if_true, if_false, Bool.true_or, Bool.false_or, Bool.or_false, beq_self_eq_true, Bool.false_eq_true, bX7_reservedNumber_0, bX7_reservedNumber_2, bX7_reservedNumber_21, bX7_reservedNumber_27, kX7_reservedNumber_0, kX7_reservedNumber_2, kX7_reservedNumber_21, kX7_reservedNumber_27, qK_50, qR_50_0, qK_51, qR_50_13, qK_52]
  simp (disch := omega) only [nI_leI, nI_ltI, nI_eq, nI_cl, qin_eq, nI_add, nI_mul, qb_z, qb_t, qb_f, nI_ne0', Nat.reduceAdd, Bool.false_eq_true, if_false, if_true, true_and, and_true, Nat.reduceEqDiff, not_true_eq_false, not_false_eq_true, false_implies, true_implies, ite_true, ite_false]
  refine ⟨fun g => ?_, fun g => ?_⟩
  · trivial
  · have hq1 : q < 22 := by omega
    have e1 : ¬ lg_cmp (σ.2 52 q) (-(lN 1)) = 0 := by
      rw [h q hq1, qlcmp0, lN_t' (cb q hq1)]
      have : (-(lN 1) : Int64).toInt = -1 := by decide
      omega
    exact ⟨qin_n hq1 (by decide), fun _ => ih hq1, fun g2 => absurd g2 e1⟩
