/-! the class: weeks -/
def zWb (w : Nat) : Prop := w = 67 ∨ w = 74 ∨ w = 97 ∨ w = 115 ∨ w = 133
theorem zWb_k {w : Nat} (h : zWb w) : qKd w = (19, 8) := by
  rcases h with rfl | rfl | rfl | rfl | rfl <;> rfl
theorem zWb_3 {w : Nat} (h : zWb w) : qRf w 3 = some (w + 1) := by
  rcases h with rfl | rfl | rfl | rfl | rfl <;> rfl
theorem zWb_4 {w : Nat} (h : zWb w) : qRf w 4 = some (w + 2) := by
  rcases h with rfl | rfl | rfl | rfl | rfl <;> rfl
theorem zWb_5 {w : Nat} (h : zWb w) : qRf w 5 = some (w + 3) := by
  rcases h with rfl | rfl | rfl | rfl | rfl <;> rfl
theorem zWb_6 {w : Nat} (h : zWb w) : qRf w 6 = some (w + 4) := by
  rcases h with rfl | rfl | rfl | rfl | rfl <;> rfl
theorem zWb_7 {w : Nat} (h : zWb w) : qRf w 7 = some (w + 5) := by
  rcases h with rfl | rfl | rfl | rfl | rfl <;> rfl
theorem zWb_a1 {w : Nat} (h : zWb w) : qKd (w + 1) = (0, 60) := by
  rcases h with rfl | rfl | rfl | rfl | rfl <;> rfl
theorem zWb_a2 {w : Nat} (h : zWb w) : qKd (w + 2) = (0, 60) := by
  rcases h with rfl | rfl | rfl | rfl | rfl <;> rfl
theorem zWb_a3 {w : Nat} (h : zWb w) : qKd (w + 3) = (0, 60) := by
  rcases h with rfl | rfl | rfl | rfl | rfl <;> rfl
theorem zWb_a4 {w : Nat} (h : zWb w) : qKd (w + 4) = (0, 60) := by
  rcases h with rfl | rfl | rfl | rfl | rfl <;> rfl
theorem zWb_a5 {w : Nat} (h : zWb w) : qKd (w + 5) = (0, 60) := by
  rcases h with rfl | rfl | rfl | rfl | rfl <;> rfl
-- a line's numbers in the class, by those of the reference
def zwk (r : Nat → Nat) : Nat := if 1500 ≤ r 0 then 15 else zkn (r 0)
def zwa (r : Nat → Nat) : Nat := if 1500 ≤ r 0 then r 0 - 1503 else r 1
def zwb (r : Nat → Nat) : Nat := if r 0 = 1519 then r 1 else if 1520 ≤ r 0 then r 5 else r 2
def zwc (r : Nat → Nat) : Nat := if 1520 ≤ r 0 then r 2 else r 3
def zXrw (σ : qSg) (w : Nat) (W : Nat → Nat → Nat) (k : Nat) : Prop := σ.1 (w + 1) k = nI (zwk (W k)) ∧ σ.1 (w + 2) k = nI (zwa (W k)) ∧ σ.1 (w + 3) k = nI (zwb (W k)) ∧ σ.1 (w + 4) k = nI (zwc (W k)) ∧ (W k 0 = 17 ∨ (zWo W k ∧ 0 < W k 4) → σ.1 (w + 5) k = nI (W k 4))
def zXW (σ : qSg) (w : Nat) (W : Nat → Nat → Nat) (n st : Nat) : Prop := σ.1 w 1 = nI n ∧ σ.1 w 2 = nI st ∧ ∀ k, k < n → zXrw σ w W k
def zWf (w a : Nat) (_ : Nat) : Prop := w ≤ a ∧ a ≤ w + 5
theorem zXrw.fr {σ σ' : qSg} {w k : Nat} {W : Nat → Nat → Nat} (h : zXrw σ w W k) (e : ∀ i, 1 ≤ i → i ≤ 5 → σ'.1 (w + i) k = σ.1 (w + i) k) : zXrw σ' w W k := by
  obtain ⟨h1, h2, h3, h4, h5⟩ := h
  refine ⟨?_, ?_, ?_, ?_, fun hh => ?_⟩
  · rw [e 1 (by decide) (by decide)]; exact h1
  · rw [e 2 (by decide) (by decide)]; exact h2
  · rw [e 3 (by decide) (by decide)]; exact h3
  · rw [e 4 (by decide) (by decide)]; exact h4
  · rw [e 5 (by decide) (by decide)]; exact h5 hh
theorem zXW.fr {σ σ' : qSg} {w n st : Nat} {W : Nat → Nat → Nat} (h : zXW σ w W n st) (e : ∀ a j, w ≤ a → a ≤ w + 5 → σ'.1 a j = σ.1 a j) : zXW σ' w W n st :=
  ⟨by rw [e _ _ (by omega) (by omega)]; exact h.1, by rw [e _ _ (by omega) (by omega)]; exact h.2.1, fun k hk => (h.2.2 k hk).fr fun i h1 h2 => e _ _ (by omega) (by omega)⟩
set_option maxRecDepth 20000 in
theorem x_drop {σ : qSg} {w : Nat} (hw : zWb w) : qCV 1 120 [qr w] σ (fun σ' => σ' = qwi (qwi (qwi σ w 0 (nI 0)) w 1 (nI 0)) w 2 (nI 0)) := by
  refine qCV.of [some (qr w)] ok_120 (Nat.le_of_ble_eq_true rfl) rfl ?_
  refine qV.go 30 [9999] ok_120 ?_
  simp only [qW_nop, qW_iconst, qW_aloadn, qW_vret, qW_putf0, qW_putf3, Nat.reduceAdd, Nat.reduceMul, Nat.reduceBEq, Nat.reduceEqDiff, Nat.reduceLT, Nat.reduceLeDiff, Nat.zero_le, nI_add, nI_mul, nI_cl, qin_eq, qofI, qlg_0, qlg_s, qls_i0, qls_r0, qls_l0, qls_1, qls_2, qkl_i, qkl_r, qkl_l, qkl_n, qIsI_i, qIsL_l, qIsR_r, qint_i, qil_i, qil_r, qil_l, qf4_0, qf4_1, qf4_2, qf4_3, qf2_0, qf2_1, qcs_n, qcs_i, qcs_r, qcs_l, qst_n, qst_c, qJ_0, qJ_st, qJ_go, qfl_I, qfl_Z, qfl_L, qfl_R, qrI_i, qrL_l, qrV_v, qRcv_0, qRcv_s, eq_self, true_and, and_true, true_or, or_true, false_and, and_false, false_or, or_false, ite_true, if_true, if_false, Bool.true_or, Bool.false_or, Bool.or_false, beq_self_eq_true, Bool.false_eq_true, bX9_drop_0, kX9_drop_0, zWb_k hw]
set_option maxRecDepth 20000 in
theorem x_hasLine {σ : qSg} {w n : Nat} (hw : zWb w) (h : σ.1 w 1 = nI n) (hn : n ≤ 60) (x : Int32) : qFI 1 122 [qr w, qi x] σ (qb (zrg x n)) := by
  refine qCI.of [some (qr w), some (qi x)] ok_122 (Nat.le_of_ble_eq_true rfl) rfl ?_
  refine qV.go 30 [9999] ok_122 ?_
  simp only [qW_nop, qW_iconst, qW_bipush, qW_iloadn, qW_aloadn, qW_iflt, qW_icge, qW_icgt, qW_goto, qW_getf, qW_iret1, Nat.reduceAdd, Nat.reduceMul, Nat.reduceBEq, Nat.reduceEqDiff, Nat.reduceLT, Nat.reduceLeDiff, Nat.zero_le, nI_add, nI_mul, nI_cl, qin_eq, qofI, qlg_0, qlg_s, qls_i0, qls_r0, qls_l0, qls_1, qls_2, qkl_i, qkl_r, qkl_l, qkl_n, qIsI_i, qIsL_l, qIsR_r, qint_i, qil_i, qil_r, qil_l, qf4_0, qf4_1, qf4_2, qf4_3, qf2_0, qf2_1, qcs_n, qcs_i, qcs_r, qcs_l, qst_n, qst_c, qJ_0, qJ_st, qJ_go, qfl_I, qfl_Z, qfl_L, qfl_R, qrI_i, qrL_l, qrV_v, qRcv_0, qRcv_s, eq_self, true_and, and_true, true_or, or_true, false_and, and_false, false_or, or_false, ite_true, if_true, if_false, Bool.true_or, Bool.false_or, Bool.or_false, beq_self_eq_true, Bool.false_eq_true, bX9_hasLine_0, bX9_hasLine_25, bX9_hasLine_26, kX9_hasLine_0, kX9_hasLine_25, kX9_hasLine_26, zWb_k hw]
  rw [h]
  simp only [z0i, qlt, qle, nI_t (show n < 2147483648 by omega), nI_t (show 60 < 2147483648 by decide)]
  unfold zrg
  refine ⟨fun g => ?_, fun g => ⟨fun g2 => ?_, fun g2 => ⟨fun g3 => by omega, fun g3 => ?_⟩⟩⟩
  · rw [decide_eq_false (p := 0 ≤ x.toInt) (by omega)]; rfl
  · rw [decide_eq_false (p := x.toInt < (n : Nat)) (by omega), Bool.and_false]; rfl
  · rw [decide_eq_true (p := 0 ≤ x.toInt) (by omega), decide_eq_true (p := x.toInt < (n : Nat)) (by omega)]; rfl
def zad (σ : qSg) (w m : Nat) (x : Int32) : qSg := qwi (qwi (qwi (qwi (qwi (qwi σ (w + 1) m x) (w + 2) m (nI 0)) (w + 3) m (nI 0)) (w + 4) m (nI 0)) (w + 5) m (nI m)) w 1 (nI (m + 1))
set_option maxRecDepth 20000 in
theorem x_addLine {σ : qSg} {w m : Nat} (hw : zWb w) (h : σ.1 w 1 = nI m) (hm : m < 60) (x : Int32) : qCV 1 123 [qr w, qi x] σ (fun σ' => σ' = zad σ w m x) := by
  refine qCV.of [some (qr w), some (qi x)] ok_123 (Nat.le_of_ble_eq_true rfl) rfl ?_
  refine qV.go 30 [9999] ok_123 ?_
  simp only [qW_nop, qW_iconst, qW_bipush, qW_iloadn, qW_aloadn, qW_iadd, qW_dup, qW_iflt, qW_icge, qW_getf, qW_iast, qW_vret, qW_putf0, Nat.reduceAdd, Nat.reduceMul, Nat.reduceBEq, Nat.reduceEqDiff, Nat.reduceLT, Nat.reduceLeDiff, Nat.zero_le, nI_add, nI_mul, nI_cl, qin_eq, qofI, qlg_0, qlg_s, qls_i0, qls_r0, qls_l0, qls_1, qls_2, qkl_i, qkl_r, qkl_l, qkl_n, qIsI_i, qIsL_l, qIsR_r, qint_i, qil_i, qil_r, qil_l, qf4_0, qf4_1, qf4_2, qf4_3, qf2_0, qf2_1, qcs_n, qcs_i, qcs_r, qcs_l, qst_n, qst_c, qJ_0, qJ_st, qJ_go, qfl_I, qfl_Z, qfl_L, qfl_R, qrI_i, qrL_l, qrV_v, qRcv_0, qRcv_s, eq_self, true_and, and_true, true_or, or_true, false_and, and_false, false_or, or_false, ite_true, if_true, if_false, Bool.true_or, Bool.false_or, Bool.or_false, beq_self_eq_true, Bool.false_eq_true, bX9_addLine_0, bX9_addLine_79, kX9_addLine_0, kX9_addLine_79, zWb_k hw, zWb_3 hw, zWb_4 hw, zWb_5 hw, zWb_6 hw, zWb_7 hw, zWb_a1 hw, zWb_a2 hw, zWb_a3 hw, zWb_a4 hw, zWb_a5 hw]
  have k1 : ∀ x, (qwi σ (w + 1) m x).1 w 1 = nI m := fun x => by rw [qwi_1, if_neg (by omega)]; exact h
  have k2 : ∀ x y, (qwi (qwi σ (w + 1) m x) (w + 2) m y).1 w 1 = nI m := fun x y => by rw [qwi_1, if_neg (by omega)]; exact k1 x
  have k3 : ∀ x y z, (qwi (qwi (qwi σ (w + 1) m x) (w + 2) m y) (w + 3) m z).1 w 1 = nI m := fun x y z => by rw [qwi_1, if_neg (by omega)]; exact k2 x y
  have k4 : ∀ x y z u, (qwi (qwi (qwi (qwi σ (w + 1) m x) (w + 2) m y) (w + 3) m z) (w + 4) m u).1 w 1 = nI m := fun x y z u => by rw [qwi_1, if_neg (by omega)]; exact k3 x y z
  have k5 : ∀ x y z u v, (qwi (qwi (qwi (qwi (qwi σ (w + 1) m x) (w + 2) m y) (w + 3) m z) (w + 4) m u) (w + 5) m v).1 w 1 = nI m := fun x y z u v => by rw [qwi_1, if_neg (by omega)]; exact k4 x y z u
  rw [h]
  simp only [z0i, qlt, qle, nI_t (show m < 2147483648 by omega), nI_t (show 60 < 2147483648 by decide)]
  refine ⟨fun g => by omega, fun _ => ⟨fun g => by omega, fun _ => ?_⟩⟩
  simp (disch := omega) only [k1, k2, k3, k4, k5, nI_cl, qin_eq, true_and, nI_add]
  rfl
set_option maxRecDepth 20000 in
theorem x_fill {σ : qSg} {w m : Nat} (hw : zWb w) (h : σ.1 w 1 = nI (m + 1)) (hm : m < 60) (x y z : Int32) : qCV 2 124 [qr w, qi x, qi y, qi z] σ (fun σ' => σ' = qwi (qwi (qwi σ (w + 2) m x) (w + 3) m y) (w + 4) m z) := by
  refine qCV.of [some (qr w), some (qi x), some (qi y), some (qi z), none] ok_124 (Nat.le_of_ble_eq_true rfl) rfl ?_
  refine qV.go 30 [9999] ok_124 ?_
  simp only [qW_nop, qW_iconst, qW_iloadn, qW_iload, qW_aloadn, qW_istore, qW_isub, qW_ifeq, qW_getf, qW_iast, qW_vret, qW_cv2_0, Nat.reduceAdd, Nat.reduceMul, Nat.reduceBEq, Nat.reduceEqDiff, Nat.reduceLT, Nat.reduceLeDiff, Nat.zero_le, nI_add, nI_mul, nI_cl, qin_eq, qofI, qlg_0, qlg_s, qls_i0, qls_r0, qls_l0, qls_1, qls_2, qkl_i, qkl_r, qkl_l, qkl_n, qIsI_i, qIsL_l, qIsR_r, qint_i, qil_i, qil_r, qil_l, qf4_0, qf4_1, qf4_2, qf4_3, qf2_0, qf2_1, qcs_n, qcs_i, qcs_r, qcs_l, qst_n, qst_c, qJ_0, qJ_st, qJ_go, qfl_I, qfl_Z, qfl_L, qfl_R, qrI_i, qrL_l, qrV_v, qRcv_0, qRcv_s, eq_self, true_and, and_true, true_or, or_true, false_and, and_false, false_or, or_false, ite_true, if_true, if_false, Bool.true_or, Bool.false_or, Bool.or_false, beq_self_eq_true, Bool.false_eq_true, bX9_fill_0, bX9_fill_41, kX9_fill_0, kX9_fill_41, zWb_k hw, zWb_3 hw, zWb_4 hw, zWb_5 hw, zWb_6 hw, zWb_7 hw, zWb_a1 hw, zWb_a2 hw, zWb_a3 hw, zWb_a4 hw, zWb_a5 hw]
  rw [h, nI_sub (by omega)]
  refine qBI.fn (x_hasLine hw h (by omega) _) (by decide) ?_
  rw [Nat.add_sub_cancel, zrg_k (by omega) (by omega)]
  simp (disch := omega) only [nI_leI, nI_ltI, nI_eq, nI_cl, qin_eq, nI_add, nI_mul, qb_z, qb_t, qb_f, nI_ne0', Nat.reduceAdd, Bool.false_eq_true, if_false, if_true, true_and, and_true, Nat.reduceEqDiff, not_true_eq_false, not_false_eq_true, false_implies, true_implies, ite_true, ite_false]
set_option maxRecDepth 20000 in
theorem x_join {σ : qSg} {w n a b : Nat} (hw : zWb w) (h : σ.1 w 1 = nI n) (hn : n ≤ 60) (ha : a < n) (hb : b < n) : qCV 2 125 [qr w, qi (nI a), qi (nI b)] σ (fun σ' => σ' = qwi (qwi σ (w + 5) a (nI b)) (w + 5) b (nI a)) := by
  refine qCV.of [some (qr w), some (qi (nI a)), some (qi (nI b))] ok_125 (Nat.le_of_ble_eq_true rfl) rfl ?_
  refine qV.go 30 [9999] ok_125 ?_
  simp only [qW_nop, qW_iloadn, qW_aloadn, qW_ifeq, qW_getf, qW_iast, qW_vret, qW_cv2_0, Nat.reduceAdd, Nat.reduceMul, Nat.reduceBEq, Nat.reduceEqDiff, Nat.reduceLT, Nat.reduceLeDiff, Nat.zero_le, nI_add, nI_mul, nI_cl, qin_eq, qofI, qlg_0, qlg_s, qls_i0, qls_r0, qls_l0, qls_1, qls_2, qkl_i, qkl_r, qkl_l, qkl_n, qIsI_i, qIsL_l, qIsR_r, qint_i, qil_i, qil_r, qil_l, qf4_0, qf4_1, qf4_2, qf4_3, qf2_0, qf2_1, qcs_n, qcs_i, qcs_r, qcs_l, qst_n, qst_c, qJ_0, qJ_st, qJ_go, qfl_I, qfl_Z, qfl_L, qfl_R, qrI_i, qrL_l, qrV_v, qRcv_0, qRcv_s, eq_self, true_and, and_true, true_or, or_true, false_and, and_false, false_or, or_false, ite_true, if_true, if_false, Bool.true_or, Bool.false_or, Bool.or_false, beq_self_eq_true, Bool.false_eq_true, bX9_join_0, bX9_join_30, kX9_join_0, kX9_join_30, zWb_k hw, zWb_3 hw, zWb_4 hw, zWb_5 hw, zWb_6 hw, zWb_7 hw, zWb_a1 hw, zWb_a2 hw, zWb_a3 hw, zWb_a4 hw, zWb_a5 hw]
  refine qBI.fn (x_hasLine hw h hn _) (by decide) ?_
  rw [zrg_k ha (by omega)]
  simp (disch := omega) only [nI_leI, nI_ltI, nI_eq, nI_cl, qin_eq, nI_add, nI_mul, qb_z, qb_t, qb_f, nI_ne0', Nat.reduceAdd, Bool.false_eq_true, if_false, if_true, true_and, and_true, Nat.reduceEqDiff, not_true_eq_false, not_false_eq_true, false_implies, true_implies, ite_true, ite_false]
  refine qBI.fn (x_hasLine hw h hn _) (by decide) ?_
  rw [zrg_k hb (by omega)]
  simp (disch := omega) only [nI_leI, nI_ltI, nI_eq, nI_cl, qin_eq, nI_add, nI_mul, qb_z, qb_t, qb_f, nI_ne0', Nat.reduceAdd, Bool.false_eq_true, if_false, if_true, true_and, and_true, Nat.reduceEqDiff, not_true_eq_false, not_false_eq_true, false_implies, true_implies, ite_true, ite_false]
theorem zWb_ap {r s : Nat} (h : zWb r) (h' : zWb s) (hne : r ≠ s) : r + 5 < s ∨ s + 5 < r := by unfold zWb at h h'; omega
def zWy (σ : qSg) (r s m : Nat) (τ : qSg) : Prop := (∀ a j, ¬ (r ≤ a ∧ a ≤ r + 5) → τ.1 a j = σ.1 a j) ∧ (∀ k, k < 3 → τ.1 r k = σ.1 s k) ∧ (∀ k j, 1 ≤ k → k ≤ m → j < 60 → τ.1 (r + k) j = σ.1 (s + k) j) ∧ τ.2 = σ.2
theorem zWy.st {σ τ : qSg} {r s m : Nat} (h : zWy σ r s m τ) (ap : r + 5 < s ∨ s + 5 < r) {k : Nat} (hm2 : m < 5) (hk : k = m + 1) : zWy σ r s (m + 1) (qci τ (s + k) 0 (r + k) 0 60) := by
  obtain ⟨h1, h2, h3, h4⟩ := h
  subst hk
  refine ⟨fun a j ha => ?_, fun k hk => ?_, fun k j k1 k2 hj => ?_, h4⟩
  · rw [qci_1, if_neg (by omega)]; exact h1 a j ha
  · rw [qci_1, if_neg (by omega)]; exact h2 k hk
  · rw [qci_1]
    by_cases e : k = m + 1
    · subst e
      rw [if_pos rfl, if_pos ⟨Nat.zero_le _, by omega⟩, h1 _ _ (by omega), Nat.sub_zero, Nat.zero_add]
    · rw [if_neg (by omega)]; exact h3 k j k1 (by omega) hj
set_option maxRecDepth 20000 in
theorem x_copyW {σ : qSg} {r s n st : Nat} {W : Nat → Nat → Nat} (hr : zWb r) (hs : zWb s) (hne : r ≠ s) (h : zXW σ s W n st) (hn : n ≤ 60) {b : Bool} (h0 : σ.1 s 0 = qb b) : qCV 1 121 [qr r, qr s] σ (fun σ' => zXW σ' r W n st ∧ σ'.1 r 0 = qb b ∧ zF (zWf r) σ σ') := by
  have ap := zWb_ap hr hs hne
  have hb := qb_01 b
  refine qCV.of [some (qr r), some (qr s)] ok_121 (Nat.le_of_ble_eq_true rfl) rfl ?_
  refine qV.go 30 [9999] ok_121 ?_
  simp only [qW_nop, qW_iconst, qW_bipush, qW_aloadn, qW_ifnonnull, qW_getf, qW_vret, qW_putf0, qW_putf3, qW_cpyI, qW_cpyL, qrg_8, qrg_10, qrg_60, Nat.reduceAdd, Nat.reduceMul, Nat.reduceBEq, Nat.reduceEqDiff, Nat.reduceLT, Nat.reduceLeDiff, Nat.zero_le, nI_add, nI_mul, nI_cl, qin_eq, qofI, qlg_0, qlg_s, qls_i0, qls_r0, qls_l0, qls_1, qls_2, qkl_i, qkl_r, qkl_l, qkl_n, qIsI_i, qIsL_l, qIsR_r, qint_i, qil_i, qil_r, qil_l, qf4_0, qf4_1, qf4_2, qf4_3, qf2_0, qf2_1, qcs_n, qcs_i, qcs_r, qcs_l, qst_n, qst_c, qJ_0, qJ_st, qJ_go, qfl_I, qfl_Z, qfl_L, qfl_R, qrI_i, qrL_l, qrV_v, qRcv_0, qRcv_s, eq_self, true_and, and_true, true_or, or_true, false_and, and_false, false_or, or_false, ite_true, if_true, if_false, Bool.true_or, Bool.false_or, Bool.or_false, beq_self_eq_true, Bool.false_eq_true, bX9_copy_0, bX9_copy_5, kX9_copy_0, kX9_copy_5, zWb_k hr, zWb_3 hr, zWb_4 hr, zWb_5 hr, zWb_6 hr, zWb_7 hr, zWb_a1 hr, zWb_a2 hr, zWb_a3 hr, zWb_a4 hr, zWb_a5 hr, zWb_k hs, zWb_3 hs, zWb_4 hs, zWb_5 hs, zWb_6 hs, zWb_7 hs, zWb_a1 hs, zWb_a2 hs, zWb_a3 hs, zWb_a4 hs, zWb_a5 hs]
  have hsr : (s = r) = False := eq_false (fun e => hne e.symm)
  simp only [qwi_1, hsr, false_and, if_false]
  have base : zWy σ r s 0 (qwi (qwi (qwi σ r 0 (σ.1 s 0)) r 1 (σ.1 s 1)) r 2 (σ.1 s 2)) := by
    refine ⟨fun a j ha => ?_, fun k hk => ?_, fun k j k1 k2 hj => by omega, rfl⟩
    · rw [qwi_1, if_neg (by omega), qwi_1, if_neg (by omega), qwi_1, if_neg (by omega)]
    · simp only [qwi_1, true_and]
      rcases (show k = 0 ∨ k = 1 ∨ k = 2 by omega) with rfl | rfl | rfl <;> rfl
  have key := ((((base.st ap (k := 1) (by decide) rfl).st ap (k := 2) (by decide) rfl).st ap (k := 3) (by decide) rfl).st ap (k := 4) (by decide) rfl).st ap (k := 5) (by decide) rfl
  have fin : ∀ T, zWy σ r s 5 T → zXW T r W n st ∧ T.1 r 0 = qb b ∧ zF (zWf r) σ T := by
    rintro T ⟨t1, t2, t3, t4⟩
    refine ⟨⟨by rw [t2 1 (by decide)]; exact h.1, by rw [t2 2 (by decide)]; exact h.2.1, fun k hk => ?_⟩, by rw [t2 0 (by decide)]; exact h0, fun a j hn => t1 a j (by unfold zWf at hn; omega), t4⟩
    obtain ⟨k1, k2, k3, k4, k5⟩ := h.2.2 k hk
    refine ⟨?_, ?_, ?_, ?_, fun hh => ?_⟩
    · rw [t3 1 k (by decide) (by decide) (by omega)]; exact k1
    · rw [t3 2 k (by decide) (by decide) (by omega)]; exact k2
    · rw [t3 3 k (by decide) (by decide) (by omega)]; exact k3
    · rw [t3 4 k (by decide) (by decide) (by omega)]; exact k4
    · rw [t3 5 k (by decide) (by decide) (by omega)]; exact k5 hh
  rw [h0] at key ⊢
  exact ⟨hb, fin _ key⟩
