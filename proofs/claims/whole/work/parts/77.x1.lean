/-! the class: a camp at its base -/
def zCb (r : Nat) : Prop := r = 1 ∨ r = 13 ∨ r = 26 ∨ r = 54 ∨ r = 85 ∨ r = 103 ∨ r = 121
theorem zCb_k {r : Nat} (h : zCb r) : qKd r = (11, 17) := by
  rcases h with rfl | rfl | rfl | rfl | rfl | rfl | rfl <;> rfl
theorem zCb_6 {r : Nat} (h : zCb r) : qRf r 6 = some (r + 1) := by
  rcases h with rfl | rfl | rfl | rfl | rfl | rfl | rfl <;> rfl
theorem zCb_7 {r : Nat} (h : zCb r) : qRf r 7 = some (r + 2) := by
  rcases h with rfl | rfl | rfl | rfl | rfl | rfl | rfl <;> rfl
theorem zCb_8 {r : Nat} (h : zCb r) : qRf r 8 = some (r + 3) := by
  rcases h with rfl | rfl | rfl | rfl | rfl | rfl | rfl <;> rfl
theorem zCb_9 {r : Nat} (h : zCb r) : qRf r 9 = some (r + 4) := by
  rcases h with rfl | rfl | rfl | rfl | rfl | rfl | rfl <;> rfl
theorem zCb_10 {r : Nat} (h : zCb r) : qRf r 10 = some (r + 5) := by
  rcases h with rfl | rfl | rfl | rfl | rfl | rfl | rfl <;> rfl
theorem zCb_11 {r : Nat} (h : zCb r) : qRf r 11 = some (r + 6) := by
  rcases h with rfl | rfl | rfl | rfl | rfl | rfl | rfl <;> rfl
theorem zCb_12 {r : Nat} (h : zCb r) : qRf r 12 = some (r + 7) := by
  rcases h with rfl | rfl | rfl | rfl | rfl | rfl | rfl <;> rfl
theorem zCb_13 {r : Nat} (h : zCb r) : qRf r 13 = some (r + 8) := by
  rcases h with rfl | rfl | rfl | rfl | rfl | rfl | rfl <;> rfl
theorem zCb_14 {r : Nat} (h : zCb r) : qRf r 14 = some (r + 9) := by
  rcases h with rfl | rfl | rfl | rfl | rfl | rfl | rfl <;> rfl
theorem zCb_15 {r : Nat} (h : zCb r) : qRf r 15 = some (r + 10) := by
  rcases h with rfl | rfl | rfl | rfl | rfl | rfl | rfl <;> rfl
theorem zCb_16 {r : Nat} (h : zCb r) : qRf r 16 = some (r + 11) := by
  rcases h with rfl | rfl | rfl | rfl | rfl | rfl | rfl <;> rfl
theorem zCb_a1 {r : Nat} (h : zCb r) : qKd (r + 1) = (1, 8) := by
  rcases h with rfl | rfl | rfl | rfl | rfl | rfl | rfl <;> rfl
theorem zCb_a2 {r : Nat} (h : zCb r) : qKd (r + 2) = (0, 8) := by
  rcases h with rfl | rfl | rfl | rfl | rfl | rfl | rfl <;> rfl
theorem zCb_a3 {r : Nat} (h : zCb r) : qKd (r + 3) = (0, 8) := by
  rcases h with rfl | rfl | rfl | rfl | rfl | rfl | rfl <;> rfl
theorem zCb_a4 {r : Nat} (h : zCb r) : qKd (r + 4) = (0, 8) := by
  rcases h with rfl | rfl | rfl | rfl | rfl | rfl | rfl <;> rfl
theorem zCb_a5 {r : Nat} (h : zCb r) : qKd (r + 5) = (0, 8) := by
  rcases h with rfl | rfl | rfl | rfl | rfl | rfl | rfl <;> rfl
theorem zCb_a6 {r : Nat} (h : zCb r) : qKd (r + 6) = (0, 8) := by
  rcases h with rfl | rfl | rfl | rfl | rfl | rfl | rfl <;> rfl
theorem zCb_a7 {r : Nat} (h : zCb r) : qKd (r + 7) = (0, 8) := by
  rcases h with rfl | rfl | rfl | rfl | rfl | rfl | rfl <;> rfl
theorem zCb_a8 {r : Nat} (h : zCb r) : qKd (r + 8) = (0, 10) := by
  rcases h with rfl | rfl | rfl | rfl | rfl | rfl | rfl <;> rfl
theorem zCb_a9 {r : Nat} (h : zCb r) : qKd (r + 9) = (0, 10) := by
  rcases h with rfl | rfl | rfl | rfl | rfl | rfl | rfl <;> rfl
theorem zCb_a10 {r : Nat} (h : zCb r) : qKd (r + 10) = (0, 10) := by
  rcases h with rfl | rfl | rfl | rfl | rfl | rfl | rfl <;> rfl
theorem zCb_a11 {r : Nat} (h : zCb r) : qKd (r + 11) = (0, 10) := by
  rcases h with rfl | rfl | rfl | rfl | rfl | rfl | rfl <;> rfl
theorem zCb_lt {r : Nat} (h : zCb r) : 1 ≤ r ∧ r ≤ 121 := by unfold zCb at h; omega
/-- the class's picture of a camp (without whom each would hear) -/
def zX0 (σ : qSg) (r : Nat) (C : zC) : Prop :=
  (σ.1 r 0 = nI (C 0 2) ∧ σ.1 r 1 = nI (C 0 3) ∧ σ.1 r 2 = nI (C 0 4) ∧ σ.1 r 3 = nI (C 0 5) ∧ σ.1 r 4 = nI (C 0 0) ∧ σ.1 r 5 = nI (C 0 1)) ∧
  (∀ b, b < C 0 0 → ∀ f, f < 5 → σ.1 (r + (2 + f)) b = nI (C (1 + f) b)) ∧
  (∀ q, q < C 0 1 → ∀ f, f < 4 → σ.1 (r + (8 + f)) q = nI (C (6 + f) q))
/-- the class's picture of a camp -/
def zX (σ : qSg) (r : Nat) (C : zC) : Prop := zX0 σ r C ∧ ∀ b, b < C 0 0 → σ.1 (r + 7) b = nI (znear C b)
theorem zX0.w {σ : qSg} {r : Nat} {C : zC} (h : zX0 σ r C) : σ.1 r 0 = nI (C 0 2) := h.1.1
theorem zX0.h {σ : qSg} {r : Nat} {C : zC} (h : zX0 σ r C) : σ.1 r 1 = nI (C 0 3) := h.1.2.1
theorem zX0.o {σ : qSg} {r : Nat} {C : zC} (h : zX0 σ r C) : σ.1 r 2 = nI (C 0 4) := h.1.2.2.1
theorem zX0.m {σ : qSg} {r : Nat} {C : zC} (h : zX0 σ r C) : σ.1 r 3 = nI (C 0 5) := h.1.2.2.2.1
theorem zX0.b {σ : qSg} {r : Nat} {C : zC} (h : zX0 σ r C) : σ.1 r 4 = nI (C 0 0) := h.1.2.2.2.2.1
theorem zX0.q {σ : qSg} {r : Nat} {C : zC} (h : zX0 σ r C) : σ.1 r 5 = nI (C 0 1) := h.1.2.2.2.2.2
theorem zX0.ce {σ : qSg} {r : Nat} {C : zC} (h : zX0 σ r C) {b : Nat} (hb : b < C 0 0) : σ.1 (r + 2) b = nI (C 1 b) := h.2.1 b hb 0 (by decide)
theorem zX0.pr {σ : qSg} {r : Nat} {C : zC} (h : zX0 σ r C) {b : Nat} (hb : b < C 0 0) : σ.1 (r + 3) b = nI (C 2 b) := h.2.1 b hb 1 (by decide)
theorem zX0.so {σ : qSg} {r : Nat} {C : zC} (h : zX0 σ r C) {b : Nat} (hb : b < C 0 0) : σ.1 (r + 4) b = nI (C 3 b) := h.2.1 b hb 2 (by decide)
theorem zX0.ea {σ : qSg} {r : Nat} {C : zC} (h : zX0 σ r C) {b : Nat} (hb : b < C 0 0) : σ.1 (r + 5) b = nI (C 4 b) := h.2.1 b hb 3 (by decide)
theorem zX0.yi {σ : qSg} {r : Nat} {C : zC} (h : zX0 σ r C) {b : Nat} (hb : b < C 0 0) : σ.1 (r + 6) b = nI (C 5 b) := h.2.1 b hb 4 (by decide)
theorem zX0.fi {σ : qSg} {r : Nat} {C : zC} (h : zX0 σ r C) {q : Nat} (hq : q < C 0 1) : σ.1 (r + 8) q = nI (C 6 q) := h.2.2 q hq 0 (by decide)
theorem zX0.se {σ : qSg} {r : Nat} {C : zC} (h : zX0 σ r C) {q : Nat} (hq : q < C 0 1) : σ.1 (r + 9) q = nI (C 7 q) := h.2.2 q hq 1 (by decide)
theorem zX0.gr {σ : qSg} {r : Nat} {C : zC} (h : zX0 σ r C) {q : Nat} (hq : q < C 0 1) : σ.1 (r + 10) q = nI (C 8 q) := h.2.2 q hq 2 (by decide)
theorem zX0.en {σ : qSg} {r : Nat} {C : zC} (h : zX0 σ r C) {q : Nat} (hq : q < C 0 1) : σ.1 (r + 11) q = nI (C 9 q) := h.2.2 q hq 3 (by decide)
set_option maxRecDepth 20000 in
theorem x_hasBoy {σ : qSg} {r : Nat} {C : zC} (hr : zCb r) (h : zX0 σ r C) (hw : zW C) (x : Int32) : qFI 1 10 [qr r, qi x] σ (qb (zrg x (C 0 0))) := by
  have wb := hw.1
  refine qCI.of [some (qr r), some (qi x)] ok_10 (Nat.le_of_ble_eq_true rfl) rfl ?_
  refine qV.go 30 [9999] ok_10 ?_
  simp only [qW_nop, qW_iconst, qW_bipush, qW_iloadn, qW_aloadn, qW_iflt, qW_icge, qW_icgt, qW_goto, qW_getf, qW_iret1, Nat.reduceAdd, Nat.reduceMul, Nat.reduceBEq, Nat.reduceEqDiff, Nat.reduceLT, Nat.reduceLeDiff, Nat.zero_le, nI_add, nI_mul, nI_cl, qin_eq, qofI, qlg_0, qlg_s, qls_i0, qls_r0, qls_l0, qls_1, qls_2, qkl_i, qkl_r, qkl_l, qkl_n, qIsI_i, qIsL_l, qIsR_r, qint_i, qil_i, qil_r, qil_l, qf4_0, qf4_1, qf4_2, qf4_3, qf2_0, qf2_1, qcs_n, qcs_i, qcs_r, qcs_l, qst_n, qst_c, qJ_0, qJ_st, qJ_go, qfl_I, qfl_Z, qfl_L, qfl_R, qrI_i, qrL_l, qrV_v, qRcv_0, qRcv_s, eq_self, true_and, and_true, true_or, or_true, false_and, and_false, false_or, or_false, ite_true, if_true, if_false, Bool.true_or, Bool.false_or, Bool.or_false, beq_self_eq_true, Bool.false_eq_true, bX1_hasBoy_0, bX1_hasBoy_25, bX1_hasBoy_26, kX1_hasBoy_0, kX1_hasBoy_25, kX1_hasBoy_26, zCb_k hr, zCb_6 hr, zCb_7 hr, zCb_8 hr, zCb_9 hr, zCb_10 hr, zCb_11 hr, zCb_12 hr, zCb_13 hr, zCb_14 hr, zCb_15 hr, zCb_16 hr, zCb_a1 hr, zCb_a2 hr, zCb_a3 hr, zCb_a4 hr, zCb_a5 hr, zCb_a6 hr, zCb_a7 hr, zCb_a8 hr, zCb_a9 hr, zCb_a10 hr, zCb_a11 hr]
  rw [h.b]
  simp only [z0i, qlt, qle, nI_t (show C 0 0 < 2147483648 by omega), nI_t (show 8 < 2147483648 by decide)]
  unfold zrg
  refine ⟨fun g => ?_, fun g => ⟨fun g2 => ?_, fun g2 => ⟨fun g3 => ?_, fun g3 => ?_⟩⟩⟩
  · rw [decide_eq_false (p := 0 ≤ x.toInt) (by omega)]; rfl
  · rw [decide_eq_false (p := x.toInt < (C 0 0 : Nat)) (by omega), Bool.and_false]; rfl
  · omega
  · rw [decide_eq_true (p := 0 ≤ x.toInt) (by omega), decide_eq_true (p := x.toInt < (C 0 0 : Nat)) (by omega)]; rfl
set_option maxRecDepth 20000 in
theorem x_hasQuarrel {σ : qSg} {r : Nat} {C : zC} (hr : zCb r) (h : zX0 σ r C) (hw : zW C) (x : Int32) : qFI 1 11 [qr r, qi x] σ (qb (zrg x (C 0 1))) := by
  have wq := hw.2.1
  refine qCI.of [some (qr r), some (qi x)] ok_11 (Nat.le_of_ble_eq_true rfl) rfl ?_
  refine qV.go 30 [9999] ok_11 ?_
  simp only [qW_nop, qW_iconst, qW_bipush, qW_iloadn, qW_aloadn, qW_iflt, qW_icge, qW_icgt, qW_goto, qW_getf, qW_iret1, Nat.reduceAdd, Nat.reduceMul, Nat.reduceBEq, Nat.reduceEqDiff, Nat.reduceLT, Nat.reduceLeDiff, Nat.zero_le, nI_add, nI_mul, nI_cl, qin_eq, qofI, qlg_0, qlg_s, qls_i0, qls_r0, qls_l0, qls_1, qls_2, qkl_i, qkl_r, qkl_l, qkl_n, qIsI_i, qIsL_l, qIsR_r, qint_i, qil_i, qil_r, qil_l, qf4_0, qf4_1, qf4_2, qf4_3, qf2_0, qf2_1, qcs_n, qcs_i, qcs_r, qcs_l, qst_n, qst_c, qJ_0, qJ_st, qJ_go, qfl_I, qfl_Z, qfl_L, qfl_R, qrI_i, qrL_l, qrV_v, qRcv_0, qRcv_s, eq_self, true_and, and_true, true_or, or_true, false_and, and_false, false_or, or_false, ite_true, if_true, if_false, Bool.true_or, Bool.false_or, Bool.or_false, beq_self_eq_true, Bool.false_eq_true, bX1_hasQuarrel_0, bX1_hasQuarrel_25, bX1_hasQuarrel_26, kX1_hasQuarrel_0, kX1_hasQuarrel_25, kX1_hasQuarrel_26, zCb_k hr, zCb_6 hr, zCb_7 hr, zCb_8 hr, zCb_9 hr, zCb_10 hr, zCb_11 hr, zCb_12 hr, zCb_13 hr, zCb_14 hr, zCb_15 hr, zCb_16 hr, zCb_a1 hr, zCb_a2 hr, zCb_a3 hr, zCb_a4 hr, zCb_a5 hr, zCb_a6 hr, zCb_a7 hr, zCb_a8 hr, zCb_a9 hr, zCb_a10 hr, zCb_a11 hr]
  rw [h.q]
  simp only [z0i, qlt, qle, nI_t (show C 0 1 < 2147483648 by omega), nI_t (show 10 < 2147483648 by decide)]
  unfold zrg
  refine ⟨fun g => ?_, fun g => ⟨fun g2 => ?_, fun g2 => ⟨fun g3 => ?_, fun g3 => ?_⟩⟩⟩
  · rw [decide_eq_false (p := 0 ≤ x.toInt) (by omega)]; rfl
  · rw [decide_eq_false (p := x.toInt < (C 0 1 : Nat)) (by omega), Bool.and_false]; rfl
  · omega
  · rw [decide_eq_true (p := 0 ≤ x.toInt) (by omega), decide_eq_true (p := x.toInt < (C 0 1 : Nat)) (by omega)]; rfl
set_option maxRecDepth 20000 in
theorem x_hasCell {σ : qSg} {r : Nat} {C : zC} (hr : zCb r) (h : zX0 σ r C) (hw : zW C) (x : Int32) : qFI 1 12 [qr r, qi x] σ (qb (zrg x (C 0 2 * C 0 3))) := by
  have hc := zSW_cells hw
  refine qCI.of [some (qr r), some (qi x)] ok_12 (Nat.le_of_ble_eq_true rfl) rfl ?_
  refine qV.go 30 [9999] ok_12 ?_
  simp only [qW_nop, qW_iconst, qW_iloadn, qW_aloadn, qW_imul, qW_iflt, qW_icge, qW_goto, qW_getf, qW_iret1, Nat.reduceAdd, Nat.reduceMul, Nat.reduceBEq, Nat.reduceEqDiff, Nat.reduceLT, Nat.reduceLeDiff, Nat.zero_le, nI_add, nI_mul, nI_cl, qin_eq, qofI, qlg_0, qlg_s, qls_i0, qls_r0, qls_l0, qls_1, qls_2, qkl_i, qkl_r, qkl_l, qkl_n, qIsI_i, qIsL_l, qIsR_r, qint_i, qil_i, qil_r, qil_l, qf4_0, qf4_1, qf4_2, qf4_3, qf2_0, qf2_1, qcs_n, qcs_i, qcs_r, qcs_l, qst_n, qst_c, qJ_0, qJ_st, qJ_go, qfl_I, qfl_Z, qfl_L, qfl_R, qrI_i, qrL_l, qrV_v, qRcv_0, qRcv_s, eq_self, true_and, and_true, true_or, or_true, false_and, and_false, false_or, or_false, ite_true, if_true, if_false, Bool.true_or, Bool.false_or, Bool.or_false, beq_self_eq_true, Bool.false_eq_true, bX1_hasCell_0, bX1_hasCell_21, bX1_hasCell_22, kX1_hasCell_0, kX1_hasCell_21, kX1_hasCell_22, zCb_k hr, zCb_6 hr, zCb_7 hr, zCb_8 hr, zCb_9 hr, zCb_10 hr, zCb_11 hr, zCb_12 hr, zCb_13 hr, zCb_14 hr, zCb_15 hr, zCb_16 hr, zCb_a1 hr, zCb_a2 hr, zCb_a3 hr, zCb_a4 hr, zCb_a5 hr, zCb_a6 hr, zCb_a7 hr, zCb_a8 hr, zCb_a9 hr, zCb_a10 hr, zCb_a11 hr]
  rw [h.w, h.h, nI_mul]
  simp only [z0i, qlt, qle, nI_t (show C 0 2 * C 0 3 < 2147483648 by omega)]
  unfold zrg
  refine ⟨fun g => ?_, fun g => ⟨fun g2 => ?_, fun g2 => ?_⟩⟩
  · rw [decide_eq_false (p := 0 ≤ x.toInt) (by omega)]; rfl
  · rw [decide_eq_false (p := x.toInt < ((C 0 2 * C 0 3 : Nat) : Int)) (by omega), Bool.and_false]; rfl
  · rw [decide_eq_true (p := 0 ≤ x.toInt) (by omega), decide_eq_true (p := x.toInt < ((C 0 2 * C 0 3 : Nat) : Int)) (by omega)]; rfl
theorem qabs_d {a b : Nat} (ha : a < 1000000) (hb : b < 1000000) : qabs (nI a - nI b) = nI (zdist a b) := by
  have e : nI a - nI b = iI ((a : Int) - (b : Int)) := by rw [iI_nat, iI_nat, iI_sub]
  have z : (0 : Int32) = iI 0 := rfl
  have g : (0 ≤ iI ((a : Int) - (b : Int))) = (0 ≤ (a : Int) - b) := by rw [qge0, iI_toInt (by omega) (by omega)]
  unfold qabs
  rw [e]
  by_cases q : 0 ≤ iI ((a : Int) - (b : Int))
  · rw [if_pos q]
    rw [g] at q
    rw [iI_nat]; congr 1; unfold zdist; omega
  · rw [if_neg q]
    rw [g] at q
    rw [z, iI_sub, iI_nat]; congr 1; unfold zdist; omega
set_option maxRecDepth 20000 in
theorem x_steps {σ : qSg} {r : Nat} {C : zC} (hr : zCb r) (h : zX0 σ r C) (hw : zW C) {a b : Nat} (ha : a < C 0 0) (hb : b < C 0 0) : qFI 2 19 [qr r, qi (nI a), qi (nI b)] σ (nI (zfar C a b)) := by
  obtain ⟨wb, wq, ww1, ww2, wh1, wh2, wo, wm, wB, wQ⟩ := id hw
  have g1 := wB a ha
  have g2 := wB b hb
  have gm : C 0 2 * C 0 3 ≤ 6 * 6 := Nat.mul_le_mul ww2 wh2
  refine qCI.of [some (qr r), some (qi (nI a)), some (qi (nI b)), none, none] ok_19 (Nat.le_of_ble_eq_true rfl) rfl ?_
  refine qV.go 30 [24] ok_19 ?_
  simp only [qW_nop, qW_iconst, qW_iloadn, qW_iload, qW_aloadn, qW_istoren, qW_istore, qW_iadd, qW_isub, qW_idiv, qW_irem, qW_ifeq, qW_icge, qW_getf, qW_iald, qW_cv2_0, qW_mabs, qW_iret0, Nat.reduceAdd, Nat.reduceMul, Nat.reduceBEq, Nat.reduceEqDiff, Nat.reduceLT, Nat.reduceLeDiff, Nat.zero_le, nI_add, nI_mul, nI_cl, qin_eq, qofI, qlg_0, qlg_s, qls_i0, qls_r0, qls_l0, qls_1, qls_2, qkl_i, qkl_r, qkl_l, qkl_n, qIsI_i, qIsL_l, qIsR_r, qint_i, qil_i, qil_r, qil_l, qf4_0, qf4_1, qf4_2, qf4_3, qf2_0, qf2_1, qcs_n, qcs_i, qcs_r, qcs_l, qst_n, qst_c, qJ_0, qJ_st, qJ_go, qfl_I, qfl_Z, qfl_L, qfl_R, qrI_i, qrL_l, qrV_v, qRcv_0, qRcv_s, eq_self, true_and, and_true, true_or, or_true, false_and, and_false, false_or, or_false, ite_true, if_true, if_false, Bool.true_or, Bool.false_or, Bool.or_false, beq_self_eq_true, Bool.false_eq_true, bX1_stepsBetween_0, bX1_stepsBetween_24, bX1_stepsBetween_26, kX1_stepsBetween_0, kX1_stepsBetween_24, kX1_stepsBetween_26, zCb_k hr, zCb_6 hr, zCb_7 hr, zCb_8 hr, zCb_9 hr, zCb_10 hr, zCb_11 hr, zCb_12 hr, zCb_13 hr, zCb_14 hr, zCb_15 hr, zCb_16 hr, zCb_a1 hr, zCb_a2 hr, zCb_a3 hr, zCb_a4 hr, zCb_a5 hr, zCb_a6 hr, zCb_a7 hr, zCb_a8 hr, zCb_a9 hr, zCb_a10 hr, zCb_a11 hr]
  refine qBI.fn (x_hasBoy hr h hw _) (by decide) ?_
  rw [zrg_k ha (by omega)]
  simp (disch := omega) only [nI_leI, nI_ltI, nI_eq, nI_cl, qin_eq, nI_add, nI_mul, qb_z, qb_t, qb_f, nI_ne0', Nat.reduceAdd, Bool.false_eq_true, if_false, if_true, true_and, and_true, Nat.reduceEqDiff, not_true_eq_false, not_false_eq_true, false_implies, true_implies, ite_true, ite_false]
  refine qBI.fn (x_hasBoy hr h hw _) (by decide) ?_
  rw [zrg_k hb (by omega), h.w]
  simp (disch := omega) only [nI_leI, nI_ltI, nI_eq, nI_cl, qin_eq, nI_add, nI_mul, qb_z, qb_t, qb_f, nI_ne0', Nat.reduceAdd, Bool.false_eq_true, if_false, if_true, true_and, and_true, Nat.reduceEqDiff, not_true_eq_false, not_false_eq_true, false_implies, true_implies, ite_true, ite_false]
  rw [h.ce ha, h.ce hb]
  refine ⟨fun _ => ⟨by omega, by omega, by omega, by omega, ?_⟩, fun hh => absurd ww1 hh⟩
  have m1 := Nat.mod_lt (C 1 a) (show C 0 2 > 0 by omega)
  have m2 := Nat.mod_lt (C 1 b) (show C 0 2 > 0 by omega)
  have d1 := Nat.div_le_self (C 1 a) (C 0 2)
  have d2 := Nat.div_le_self (C 1 b) (C 0 2)
  rw [nI_rem (by omega) (by omega) (by omega), nI_rem (by omega) (by omega) (by omega), nI_div (by omega) (by omega) (by omega), nI_div (by omega) (by omega) (by omega), qabs_d (by omega) (by omega), qabs_d (by omega) (by omega), nI_add]
  rfl
set_option maxRecDepth 20000 in
theorem x_isOpen {σ : qSg} {r : Nat} {C : zC} (hr : zCb r) (h : zX0 σ r C) (hw : zW C) {q : Nat} (hq : q < C 0 1) : qFI 2 20 [qr r, qi (nI q)] σ (qb (zOpen C q)) := by
  have wq := hw.2.1
  have wQ := hw.2.2.2.2.2.2.2.2.2 q hq
  refine qCI.of [some (qr r), some (qi (nI q))] ok_20 (Nat.le_of_ble_eq_true rfl) rfl ?_
  refine qV.go 30 [9999] ok_20 ?_
  simp only [qW_nop, qW_iconst, qW_iloadn, qW_aloadn, qW_ifeq, qW_ifne, qW_goto, qW_getf, qW_iald, qW_cv2_0, qW_iret1, Nat.reduceAdd, Nat.reduceMul, Nat.reduceBEq, Nat.reduceEqDiff, Nat.reduceLT, Nat.reduceLeDiff, Nat.zero_le, nI_add, nI_mul, nI_cl, qin_eq, qofI, qlg_0, qlg_s, qls_i0, qls_r0, qls_l0, qls_1, qls_2, qkl_i, qkl_r, qkl_l, qkl_n, qIsI_i, qIsL_l, qIsR_r, qint_i, qil_i, qil_r, qil_l, qf4_0, qf4_1, qf4_2, qf4_3, qf2_0, qf2_1, qcs_n, qcs_i, qcs_r, qcs_l, qst_n, qst_c, qJ_0, qJ_st, qJ_go, qfl_I, qfl_Z, qfl_L, qfl_R, qrI_i, qrL_l, qrV_v, qRcv_0, qRcv_s, eq_self, true_and, and_true, true_or, or_true, false_and, and_false, false_or, or_false, ite_true, if_true, if_false, Bool.true_or, Bool.false_or, Bool.or_false, beq_self_eq_true, Bool.false_eq_true, bX1_isOpen_0, bX1_isOpen_21, bX1_isOpen_22, kX1_isOpen_0, kX1_isOpen_21, kX1_isOpen_22, zCb_k hr, zCb_6 hr, zCb_7 hr, zCb_8 hr, zCb_9 hr, zCb_10 hr, zCb_11 hr, zCb_12 hr, zCb_13 hr, zCb_14 hr, zCb_15 hr, zCb_16 hr, zCb_a1 hr, zCb_a2 hr, zCb_a3 hr, zCb_a4 hr, zCb_a5 hr, zCb_a6 hr, zCb_a7 hr, zCb_a8 hr, zCb_a9 hr, zCb_a10 hr, zCb_a11 hr]
  refine qBI.fn (x_hasQuarrel hr h hw _) (by decide) ?_
  rw [zrg_k hq (by omega)]
  simp (disch := omega) only [nI_leI, nI_ltI, nI_eq, nI_cl, qin_eq, nI_add, nI_mul, qb_z, qb_t, qb_f, nI_ne0', Nat.reduceAdd, Bool.false_eq_true, if_false, if_true, true_and, and_true, Nat.reduceEqDiff, not_true_eq_false, not_false_eq_true, false_implies, true_implies, ite_true, ite_false]
  rw [h.en hq]
  unfold zOpen
  rw [nI_ne0' (by omega)]
  refine ⟨fun g => ?_, fun g => ?_⟩
  · rw [decide_eq_false g]; rfl
  · rw [decide_eq_true g]; rfl
set_option maxRecDepth 20000 in
theorem x_openSet {σ : qSg} {r : Nat} {C : zC} (hr : zCb r) (h : zX0 σ r C) (hw : zW C) : qFI 1 23 [qr r] σ (nI (zopens C)) := by
  obtain ⟨wb, wq, ww1, ww2, wh1, wh2, wo, wm, wB, wQ⟩ := id hw
  refine qCI.of [some (qr r), none, none] ok_23 (Nat.le_of_ble_eq_true rfl) rfl ?_
  refine qV.go 30 [4] ok_23 ?_
  simp only [qW_nop, qW_iconst, qW_iloadn, qW_aloadn, qW_istoren, qW_iinc, qW_ior, qW_ishl, qW_ifne, qW_icge, qW_goto, qW_getf, qW_iald, qW_iret0, Nat.reduceAdd, Nat.reduceMul, Nat.reduceBEq, Nat.reduceEqDiff, Nat.reduceLT, Nat.reduceLeDiff, Nat.zero_le, nI_add, nI_mul, nI_cl, qin_eq, qofI, qlg_0, qlg_s, qls_i0, qls_r0, qls_l0, qls_1, qls_2, qkl_i, qkl_r, qkl_l, qkl_n, qIsI_i, qIsL_l, qIsR_r, qint_i, qil_i, qil_r, qil_l, qf4_0, qf4_1, qf4_2, qf4_3, qf2_0, qf2_1, qcs_n, qcs_i, qcs_r, qcs_l, qst_n, qst_c, qJ_0, qJ_st, qJ_go, qfl_I, qfl_Z, qfl_L, qfl_R, qrI_i, qrL_l, qrV_v, qRcv_0, qRcv_s, eq_self, true_and, and_true, true_or, or_true, false_and, and_false, false_or, or_false, ite_true, if_true, if_false, Bool.true_or, Bool.false_or, Bool.or_false, beq_self_eq_true, Bool.false_eq_true, bX1_openSet_0, bX1_openSet_4, bX1_openSet_27, bX1_openSet_33, kX1_openSet_0, kX1_openSet_4, kX1_openSet_27, kX1_openSet_33, zCb_k hr, zCb_6 hr, zCb_7 hr, zCb_8 hr, zCb_9 hr, zCb_10 hr, zCb_11 hr, zCb_12 hr, zCb_13 hr, zCb_14 hr, zCb_15 hr, zCb_16 hr, zCb_a1 hr, zCb_a2 hr, zCb_a3 hr, zCb_a4 hr, zCb_a5 hr, zCb_a6 hr, zCb_a7 hr, zCb_a8 hr, zCb_a9 hr, zCb_a10 hr, zCb_a11 hr]
  refine qdown (n := C 0 1) (P := fun q => qV 23 1 (.inl fun r' σ' => r' = nI (zopens C) ∧ σ' = σ) 4 [some (qr r), some (qi (nI (bm q (zOpen C)))), some (qi (nI q))] [] σ) (fun q hq ih => ?_) 0 (Nat.zero_le _)
  refine qV.go 30 [4] ok_23 ?_
  simp only [qW_nop, qW_iconst, qW_iloadn, qW_aloadn, qW_istoren, qW_iinc, qW_ior, qW_ishl, qW_ifne, qW_icge, qW_goto, qW_getf, qW_iald, qW_iret0, Nat.reduceAdd, Nat.reduceMul, Nat.reduceBEq, Nat.reduceEqDiff, Nat.reduceLT, Nat.reduceLeDiff, Nat.zero_le, nI_add, nI_mul, nI_cl, qin_eq, qofI, qlg_0, qlg_s, qls_i0, qls_r0, qls_l0, qls_1, qls_2, qkl_i, qkl_r, qkl_l, qkl_n, qIsI_i, qIsL_l, qIsR_r, qint_i, qil_i, qil_r, qil_l, qf4_0, qf4_1, qf4_2, qf4_3, qf2_0, qf2_1, qcs_n, qcs_i, qcs_r, qcs_l, qst_n, qst_c, qJ_0, qJ_st, qJ_go, qfl_I, qfl_Z, qfl_L, qfl_R, qrI_i, qrL_l, qrV_v, qRcv_0, qRcv_s, eq_self, true_and, and_true, true_or, or_true, false_and, and_false, false_or, or_false, ite_true, if_true, if_false, Bool.true_or, Bool.false_or, Bool.or_false, beq_self_eq_true, Bool.false_eq_true, bX1_openSet_0, bX1_openSet_4, bX1_openSet_27, bX1_openSet_33, kX1_openSet_0, kX1_openSet_4, kX1_openSet_27, kX1_openSet_33, zCb_k hr, zCb_6 hr, zCb_7 hr, zCb_8 hr, zCb_9 hr, zCb_10 hr, zCb_11 hr, zCb_12 hr, zCb_13 hr, zCb_14 hr, zCb_15 hr, zCb_16 hr, zCb_a1 hr, zCb_a2 hr, zCb_a3 hr, zCb_a4 hr, zCb_a5 hr, zCb_a6 hr, zCb_a7 hr, zCb_a8 hr, zCb_a9 hr, zCb_a10 hr, zCb_a11 hr]
  rw [h.q]
  simp (disch := omega) only [nI_leI, nI_ltI, nI_eq, nI_cl, qin_eq, nI_add, nI_mul, qb_z, qb_t, qb_f, nI_ne0', Nat.reduceAdd, Bool.false_eq_true, if_false, if_true, true_and, and_true, Nat.reduceEqDiff, not_true_eq_false, not_false_eq_true, false_implies, true_implies, ite_true, ite_false]
  refine ⟨fun g => ?_, fun g => ?_⟩
  · have : q = C 0 1 := by omega
    subst this
    rfl
  · have hq1 : q < C 0 1 := by omega
    have g9 := wQ q hq1
    rw [h.en hq1]
    simp (disch := omega) only [nI_leI, nI_ltI, nI_eq, nI_cl, qin_eq, nI_add, nI_mul, qb_z, qb_t, qb_f, nI_ne0', Nat.reduceAdd, Bool.false_eq_true, if_false, if_true, true_and, and_true, Nat.reduceEqDiff, not_true_eq_false, not_false_eq_true, false_implies, true_implies, ite_true, ite_false]
    refine ⟨fun h1 => ?_, fun h1 => ?_⟩
    · rw [← qset_not (P := zOpen C) (n := q) (decide_eq_false h1)] at ih
      exact ih hq1
    · rw [qset_add (P := zOpen C) (n := q) (by omega) (decide_eq_true h1)]
      exact ih hq1
set_option maxRecDepth 20000 in
theorem x_grudges {σ : qSg} {r : Nat} {C : zC} (hr : zCb r) (h : zX0 σ r C) (hw : zW C) : qFI 1 24 [qr r] σ (nI (zsum (C 0 1) (fun q => if zOpen C q then C 8 q else 0))) := by
  obtain ⟨wb, wq, ww1, ww2, wh1, wh2, wo, wm, wB, wQ⟩ := id hw
  refine qCI.of [some (qr r), none, none] ok_24 (Nat.le_of_ble_eq_true rfl) rfl ?_
  refine qV.go 30 [4] ok_24 ?_
  simp only [qW_nop, qW_iconst, qW_iloadn, qW_aloadn, qW_istoren, qW_iinc, qW_iadd, qW_ifne, qW_icge, qW_goto, qW_getf, qW_iald, qW_iret0, Nat.reduceAdd, Nat.reduceMul, Nat.reduceBEq, Nat.reduceEqDiff, Nat.reduceLT, Nat.reduceLeDiff, Nat.zero_le, nI_add, nI_mul, nI_cl, qin_eq, qofI, qlg_0, qlg_s, qls_i0, qls_r0, qls_l0, qls_1, qls_2, qkl_i, qkl_r, qkl_l, qkl_n, qIsI_i, qIsL_l, qIsR_r, qint_i, qil_i, qil_r, qil_l, qf4_0, qf4_1, qf4_2, qf4_3, qf2_0, qf2_1, qcs_n, qcs_i, qcs_r, qcs_l, qst_n, qst_c, qJ_0, qJ_st, qJ_go, qfl_I, qfl_Z, qfl_L, qfl_R, qrI_i, qrL_l, qrV_v, qRcv_0, qRcv_s, eq_self, true_and, and_true, true_or, or_true, false_and, and_false, false_or, or_false, ite_true, if_true, if_false, Bool.true_or, Bool.false_or, Bool.or_false, beq_self_eq_true, Bool.false_eq_true, bX1_openGrudges_0, bX1_openGrudges_4, bX1_openGrudges_31, bX1_openGrudges_32, bX1_openGrudges_40, kX1_openGrudges_0, kX1_openGrudges_4, kX1_openGrudges_31, kX1_openGrudges_32, kX1_openGrudges_40, zCb_k hr, zCb_6 hr, zCb_7 hr, zCb_8 hr, zCb_9 hr, zCb_10 hr, zCb_11 hr, zCb_12 hr, zCb_13 hr, zCb_14 hr, zCb_15 hr, zCb_16 hr, zCb_a1 hr, zCb_a2 hr, zCb_a3 hr, zCb_a4 hr, zCb_a5 hr, zCb_a6 hr, zCb_a7 hr, zCb_a8 hr, zCb_a9 hr, zCb_a10 hr, zCb_a11 hr]
  refine qdown (n := C 0 1) (P := fun q => qV 24 1 (.inl fun r' σ' => r' = nI (zsum (C 0 1) (fun q => if zOpen C q then C 8 q else 0)) ∧ σ' = σ) 4 [some (qr r), some (qi (nI (zsum q (fun q => if zOpen C q then C 8 q else 0)))), some (qi (nI q))] [] σ) (fun q hq ih => ?_) 0 (Nat.zero_le _)
  refine qV.go 30 [4] ok_24 ?_
  simp only [qW_nop, qW_iconst, qW_iloadn, qW_aloadn, qW_istoren, qW_iinc, qW_iadd, qW_ifne, qW_icge, qW_goto, qW_getf, qW_iald, qW_iret0, Nat.reduceAdd, Nat.reduceMul, Nat.reduceBEq, Nat.reduceEqDiff, Nat.reduceLT, Nat.reduceLeDiff, Nat.zero_le, nI_add, nI_mul, nI_cl, qin_eq, qofI, qlg_0, qlg_s, qls_i0, qls_r0, qls_l0, qls_1, qls_2, qkl_i, qkl_r, qkl_l, qkl_n, qIsI_i, qIsL_l, qIsR_r, qint_i, qil_i, qil_r, qil_l, qf4_0, qf4_1, qf4_2, qf4_3, qf2_0, qf2_1, qcs_n, qcs_i, qcs_r, qcs_l, qst_n, qst_c, qJ_0, qJ_st, qJ_go, qfl_I, qfl_Z, qfl_L, qfl_R, qrI_i, qrL_l, qrV_v, qRcv_0, qRcv_s, eq_self, true_and, and_true, true_or, or_true, false_and, and_false, false_or, or_false, ite_true, if_true, if_false, Bool.true_or, Bool.false_or, Bool.or_false, beq_self_eq_true, Bool.false_eq_true, bX1_openGrudges_0, bX1_openGrudges_4, bX1_openGrudges_31, bX1_openGrudges_32, bX1_openGrudges_40, kX1_openGrudges_0, kX1_openGrudges_4, kX1_openGrudges_31, kX1_openGrudges_32, kX1_openGrudges_40, zCb_k hr, zCb_6 hr, zCb_7 hr, zCb_8 hr, zCb_9 hr, zCb_10 hr, zCb_11 hr, zCb_12 hr, zCb_13 hr, zCb_14 hr, zCb_15 hr, zCb_16 hr, zCb_a1 hr, zCb_a2 hr, zCb_a3 hr, zCb_a4 hr, zCb_a5 hr, zCb_a6 hr, zCb_a7 hr, zCb_a8 hr, zCb_a9 hr, zCb_a10 hr, zCb_a11 hr]
  rw [h.q]
  simp (disch := omega) only [nI_leI, nI_ltI, nI_eq, nI_cl, qin_eq, nI_add, nI_mul, qb_z, qb_t, qb_f, nI_ne0', Nat.reduceAdd, Bool.false_eq_true, if_false, if_true, true_and, and_true, Nat.reduceEqDiff, not_true_eq_false, not_false_eq_true, false_implies, true_implies, ite_true, ite_false]
  refine ⟨fun g => ?_, fun g => ?_⟩
  · have : q = C 0 1 := by omega
    subst this
    rfl
  · have hq1 : q < C 0 1 := by omega
    have g9 := wQ q hq1
    have e : zsum (q + 1) (fun q => if zOpen C q then C 8 q else 0) = zsum q (fun q => if zOpen C q then C 8 q else 0) + (if zOpen C q then C 8 q else 0) := rfl
    rw [h.en hq1, h.gr hq1]
    rw [e] at ih
    simp (disch := omega) only [nI_leI, nI_ltI, nI_eq, nI_cl, qin_eq, nI_add, nI_mul, qb_z, qb_t, qb_f, nI_ne0', Nat.reduceAdd, Bool.false_eq_true, if_false, if_true, true_and, and_true, Nat.reduceEqDiff, not_true_eq_false, not_false_eq_true, false_implies, true_implies, ite_true, ite_false]
    refine ⟨fun h1 => ?_, fun h1 => ?_⟩
    · rw [if_neg (by unfold zOpen; rw [decide_eq_false h1]; decide)] at ih
      exact ih hq1
    · rw [if_pos (by unfold zOpen; rw [decide_eq_true h1])] at ih
      exact ih hq1
set_option maxRecDepth 20000 in
theorem x_openOf {σ : qSg} {r : Nat} {C : zC} (hr : zCb r) (h : zX0 σ r C) (hw : zW C) {b : Nat} (hb : b < C 0 0) : qFI 1 25 [qr r, qi (nI b)] σ (nI (zpop (zof C b))) := by
  obtain ⟨wb, wq, ww1, ww2, wh1, wh2, wo, wm, wB, wQ⟩ := id hw
  unfold zof
  rw [zpop_bm (by omega)]
  refine qCI.of [some (qr r), some (qi (nI b)), none, none] ok_25 (Nat.le_of_ble_eq_true rfl) rfl ?_
  refine qV.go 30 [4] ok_25 ?_
  simp only [qW_nop, qW_iconst, qW_iloadn, qW_aloadn, qW_istoren, qW_iinc, qW_iceq, qW_ifne, qW_icne, qW_icge, qW_goto, qW_getf, qW_iald, qW_iret0, Nat.reduceAdd, Nat.reduceMul, Nat.reduceBEq, Nat.reduceEqDiff, Nat.reduceLT, Nat.reduceLeDiff, Nat.zero_le, nI_add, nI_mul, nI_cl, qin_eq, qofI, qlg_0, qlg_s, qls_i0, qls_r0, qls_l0, qls_1, qls_2, qkl_i, qkl_r, qkl_l, qkl_n, qIsI_i, qIsL_l, qIsR_r, qint_i, qil_i, qil_r, qil_l, qf4_0, qf4_1, qf4_2, qf4_3, qf2_0, qf2_1, qcs_n, qcs_i, qcs_r, qcs_l, qst_n, qst_c, qJ_0, qJ_st, qJ_go, qfl_I, qfl_Z, qfl_L, qfl_R, qrI_i, qrL_l, qrV_v, qRcv_0, qRcv_s, eq_self, true_and, and_true, true_or, or_true, false_and, and_false, false_or, or_false, ite_true, if_true, if_false, Bool.true_or, Bool.false_or, Bool.or_false, beq_self_eq_true, Bool.false_eq_true, bX1_openOf_0, bX1_openOf_4, bX1_openOf_41, bX1_openOf_44, bX1_openOf_50, kX1_openOf_0, kX1_openOf_4, kX1_openOf_41, kX1_openOf_44, kX1_openOf_50, zCb_k hr, zCb_6 hr, zCb_7 hr, zCb_8 hr, zCb_9 hr, zCb_10 hr, zCb_11 hr, zCb_12 hr, zCb_13 hr, zCb_14 hr, zCb_15 hr, zCb_16 hr, zCb_a1 hr, zCb_a2 hr, zCb_a3 hr, zCb_a4 hr, zCb_a5 hr, zCb_a6 hr, zCb_a7 hr, zCb_a8 hr, zCb_a9 hr, zCb_a10 hr, zCb_a11 hr]
  refine qdown (n := C 0 1) (P := fun q => qV 25 1 (.inl fun r' σ' => r' = nI (zcount (fun q => zOpen C q && zin C q b) (C 0 1)) ∧ σ' = σ) 4 [some (qr r), some (qi (nI b)), some (qi (nI (zcount (fun q => zOpen C q && zin C q b) q))), some (qi (nI q))] [] σ) (fun q hq ih => ?_) 0 (Nat.zero_le _)
  refine qV.go 30 [4, 41, 44] ok_25 ?_
  simp only [qW_nop, qW_iconst, qW_iloadn, qW_aloadn, qW_istoren, qW_iinc, qW_iceq, qW_ifne, qW_icne, qW_icge, qW_goto, qW_getf, qW_iald, qW_iret0, Nat.reduceAdd, Nat.reduceMul, Nat.reduceBEq, Nat.reduceEqDiff, Nat.reduceLT, Nat.reduceLeDiff, Nat.zero_le, nI_add, nI_mul, nI_cl, qin_eq, qofI, qlg_0, qlg_s, qls_i0, qls_r0, qls_l0, qls_1, qls_2, qkl_i, qkl_r, qkl_l, qkl_n, qIsI_i, qIsL_l, qIsR_r, qint_i, qil_i, qil_r, qil_l, qf4_0, qf4_1, qf4_2, qf4_3, qf2_0, qf2_1, qcs_n, qcs_i, qcs_r, qcs_l, qst_n, qst_c, qJ_0, qJ_st, qJ_go, qfl_I, qfl_Z, qfl_L, qfl_R, qrI_i, qrL_l, qrV_v, qRcv_0, qRcv_s, eq_self, true_and, and_true, true_or, or_true, false_and, and_false, false_or, or_false, ite_true, if_true, if_false, Bool.true_or, Bool.false_or, Bool.or_false, beq_self_eq_true, Bool.false_eq_true, bX1_openOf_0, bX1_openOf_4, bX1_openOf_41, bX1_openOf_44, bX1_openOf_50, kX1_openOf_0, kX1_openOf_4, kX1_openOf_41, kX1_openOf_44, kX1_openOf_50, zCb_k hr, zCb_6 hr, zCb_7 hr, zCb_8 hr, zCb_9 hr, zCb_10 hr, zCb_11 hr, zCb_12 hr, zCb_13 hr, zCb_14 hr, zCb_15 hr, zCb_16 hr, zCb_a1 hr, zCb_a2 hr, zCb_a3 hr, zCb_a4 hr, zCb_a5 hr, zCb_a6 hr, zCb_a7 hr, zCb_a8 hr, zCb_a9 hr, zCb_a10 hr, zCb_a11 hr]
  rw [h.q]
  simp (disch := omega) only [nI_leI, nI_ltI, nI_eq, nI_cl, qin_eq, nI_add, nI_mul, qb_z, qb_t, qb_f, nI_ne0', Nat.reduceAdd, Bool.false_eq_true, if_false, if_true, true_and, and_true, Nat.reduceEqDiff, not_true_eq_false, not_false_eq_true, false_implies, true_implies, ite_true, ite_false]
  refine ⟨fun g => ?_, fun g => ?_⟩
  · have : q = C 0 1 := by omega
    subst this
    rfl
  · have hq1 : q < C 0 1 := by omega
    have g9 := wQ q hq1
    have e : zcount (fun q => zOpen C q && zin C q b) (q + 1) = zcount (fun q => zOpen C q && zin C q b) q + (if (zOpen C q && zin C q b) = true then 1 else 0) := rfl
    have hc := zcount_le (fun q => zOpen C q && zin C q b) q
    rw [h.en hq1, h.fi hq1, h.se hq1]
    rw [e] at ih
    have no : (zOpen C q && zin C q b) = false → qV 25 1 (.inl fun r' σ' => r' = nI (zcount (fun q => zOpen C q && zin C q b) (C 0 1)) ∧ σ' = σ) 44 [some (qr r), some (qi (nI b)), some (qi (nI (zcount (fun q => zOpen C q && zin C q b) q))), some (qi (nI q))] [] σ := by
      intro hz
      rw [if_neg (by rw [hz]; decide)] at ih
      refine qV.go 30 [4] ok_25 ?_
      simp only [qW_nop, qW_iconst, qW_iloadn, qW_aloadn, qW_istoren, qW_iinc, qW_iceq, qW_ifne, qW_icne, qW_icge, qW_goto, qW_getf, qW_iald, qW_iret0, Nat.reduceAdd, Nat.reduceMul, Nat.reduceBEq, Nat.reduceEqDiff, Nat.reduceLT, Nat.reduceLeDiff, Nat.zero_le, nI_add, nI_mul, nI_cl, qin_eq, qofI, qlg_0, qlg_s, qls_i0, qls_r0, qls_l0, qls_1, qls_2, qkl_i, qkl_r, qkl_l, qkl_n, qIsI_i, qIsL_l, qIsR_r, qint_i, qil_i, qil_r, qil_l, qf4_0, qf4_1, qf4_2, qf4_3, qf2_0, qf2_1, qcs_n, qcs_i, qcs_r, qcs_l, qst_n, qst_c, qJ_0, qJ_st, qJ_go, qfl_I, qfl_Z, qfl_L, qfl_R, qrI_i, qrL_l, qrV_v, qRcv_0, qRcv_s, eq_self, true_and, and_true, true_or, or_true, false_and, and_false, false_or, or_false, ite_true, if_true, if_false, Bool.true_or, Bool.false_or, Bool.or_false, beq_self_eq_true, Bool.false_eq_true, bX1_openOf_0, bX1_openOf_4, bX1_openOf_41, bX1_openOf_44, bX1_openOf_50, kX1_openOf_0, kX1_openOf_4, kX1_openOf_41, kX1_openOf_44, kX1_openOf_50, zCb_k hr, zCb_6 hr, zCb_7 hr, zCb_8 hr, zCb_9 hr, zCb_10 hr, zCb_11 hr, zCb_12 hr, zCb_13 hr, zCb_14 hr, zCb_15 hr, zCb_16 hr, zCb_a1 hr, zCb_a2 hr, zCb_a3 hr, zCb_a4 hr, zCb_a5 hr, zCb_a6 hr, zCb_a7 hr, zCb_a8 hr, zCb_a9 hr, zCb_a10 hr, zCb_a11 hr]
      exact ih hq1
    have yes : (zOpen C q && zin C q b) = true → qV 25 1 (.inl fun r' σ' => r' = nI (zcount (fun q => zOpen C q && zin C q b) (C 0 1)) ∧ σ' = σ) 41 [some (qr r), some (qi (nI b)), some (qi (nI (zcount (fun q => zOpen C q && zin C q b) q))), some (qi (nI q))] [] σ := by
      intro hz
      rw [if_pos hz] at ih
      refine qV.go 30 [4] ok_25 ?_
      simp only [qW_nop, qW_iconst, qW_iloadn, qW_aloadn, qW_istoren, qW_iinc, qW_iceq, qW_ifne, qW_icne, qW_icge, qW_goto, qW_getf, qW_iald, qW_iret0, Nat.reduceAdd, Nat.reduceMul, Nat.reduceBEq, Nat.reduceEqDiff, Nat.reduceLT, Nat.reduceLeDiff, Nat.zero_le, nI_add, nI_mul, nI_cl, qin_eq, qofI, qlg_0, qlg_s, qls_i0, qls_r0, qls_l0, qls_1, qls_2, qkl_i, qkl_r, qkl_l, qkl_n, qIsI_i, qIsL_l, qIsR_r, qint_i, qil_i, qil_r, qil_l, qf4_0, qf4_1, qf4_2, qf4_3, qf2_0, qf2_1, qcs_n, qcs_i, qcs_r, qcs_l, qst_n, qst_c, qJ_0, qJ_st, qJ_go, qfl_I, qfl_Z, qfl_L, qfl_R, qrI_i, qrL_l, qrV_v, qRcv_0, qRcv_s, eq_self, true_and, and_true, true_or, or_true, false_and, and_false, false_or, or_false, ite_true, if_true, if_false, Bool.true_or, Bool.false_or, Bool.or_false, beq_self_eq_true, Bool.false_eq_true, bX1_openOf_0, bX1_openOf_4, bX1_openOf_41, bX1_openOf_44, bX1_openOf_50, kX1_openOf_0, kX1_openOf_4, kX1_openOf_41, kX1_openOf_44, kX1_openOf_50, zCb_k hr, zCb_6 hr, zCb_7 hr, zCb_8 hr, zCb_9 hr, zCb_10 hr, zCb_11 hr, zCb_12 hr, zCb_13 hr, zCb_14 hr, zCb_15 hr, zCb_16 hr, zCb_a1 hr, zCb_a2 hr, zCb_a3 hr, zCb_a4 hr, zCb_a5 hr, zCb_a6 hr, zCb_a7 hr, zCb_a8 hr, zCb_a9 hr, zCb_a10 hr, zCb_a11 hr]
      exact ih hq1
    unfold zOpen zin at no yes
    simp (disch := omega) only [nI_leI, nI_ltI, nI_eq, nI_cl, qin_eq, nI_add, nI_mul, qb_z, qb_t, qb_f, nI_ne0', Nat.reduceAdd, Bool.false_eq_true, if_false, if_true, true_and, and_true, Nat.reduceEqDiff, not_true_eq_false, not_false_eq_true, false_implies, true_implies, ite_true, ite_false]
    refine ⟨fun h1 => no (by rw [decide_eq_false h1]; rfl), fun h1 => ⟨fun h2 => yes (by rw [decide_eq_true h1, decide_eq_true h2]; rfl), fun h2 => ⟨fun h3 => no (by rw [decide_eq_false h2, decide_eq_false h3]; simp), fun h3 => yes (by rw [decide_eq_true h1, decide_eq_true (p := C 7 q = b) h3, Bool.or_true]; rfl)⟩⟩⟩
-- who is up
def zupq (C : zC) (q : Nat) : Nat := bm (C 0 0) (fun b => zall (fun i => !(zOpen C i && zin C i b)) q)
theorem bm_true : ∀ n, bm n (fun _ => true) = 2 ^ n - 1
  | 0 => rfl
  | n + 1 => by
    have e : bm (n + 1) (fun _ => true) = 2 ^ n + bm n (fun _ => true) := by simp only [bm, if_true]
    have := Nat.two_pow_pos n
    rw [e, bm_true n, Nat.pow_succ]
    omega
theorem zupq_0 (C : zC) : zupq C 0 = 2 ^ C 0 0 - 1 := bm_true _
theorem zupq_n (C : zC) : zupq C (C 0 1) = zups C := by
  refine bm_congr fun b hb => ?_
  apply Bool.eq_iff_iff.mpr
  rw [zUp_iff, zall_iff]
  constructor
  · intro hh q hq hz h9
    have := hh q hq
    rw [hz] at this
    simp [zOpen, h9] at this
  · intro hh q hq
    cases hz : zin C q b with
    | false => simp
    | true =>
      have := hh q hq hz
      simp [zOpen, this]
theorem zupq_no {C : zC} {q : Nat} (h : zOpen C q = false) : zupq C (q + 1) = zupq C q := by
  refine bm_congr fun b hb => ?_
  simp only [zall]
  rw [h]
  simp
theorem zupq_yes {C : zC} {q : Nat} (h : zOpen C q = true) : zupq C (q + 1) = zupq C q ^^^ (zupq C q &&& zboth C q) := by
  apply Nat.eq_of_testBit_eq
  intro i
  rw [Nat.testBit_xor, Nat.testBit_and, zboth_bit]
  unfold zupq
  rw [bm_bit, bm_bit]
  simp only [zall]
  rw [h]
  cases decide (i < C 0 0) <;> cases zall (fun j => !(zOpen C j && zin C j i)) q <;> cases zin C q i <;> rfl
set_option maxRecDepth 20000 in
theorem x_upSet {σ : qSg} {r : Nat} {C : zC} (hr : zCb r) (h : zX0 σ r C) (hw : zW C) : qFI 1 22 [qr r] σ (nI (zups C)) := by
  obtain ⟨wb, wq, ww1, ww2, wh1, wh2, wo, wm, wB, wQ⟩ := id hw
  have hp := Nat.two_pow_pos (C 0 0)
  refine qCI.of [some (qr r), none, none] ok_22 (Nat.le_of_ble_eq_true rfl) rfl ?_
  refine qV.go 30 [11] ok_22 ?_
  simp only [qW_nop, qW_iconst, qW_iconstm, qW_iloadn, qW_aloadn, qW_istoren, qW_iinc, qW_isub, qW_iand, qW_ior, qW_ixor, qW_ishl, qW_ifne, qW_icge, qW_goto, qW_getf, qW_iald, qW_iret0, Nat.reduceAdd, Nat.reduceMul, Nat.reduceBEq, Nat.reduceEqDiff, Nat.reduceLT, Nat.reduceLeDiff, Nat.zero_le, nI_add, nI_mul, nI_cl, qin_eq, qofI, qlg_0, qlg_s, qls_i0, qls_r0, qls_l0, qls_1, qls_2, qkl_i, qkl_r, qkl_l, qkl_n, qIsI_i, qIsL_l, qIsR_r, qint_i, qil_i, qil_r, qil_l, qf4_0, qf4_1, qf4_2, qf4_3, qf2_0, qf2_1, qcs_n, qcs_i, qcs_r, qcs_l, qst_n, qst_c, qJ_0, qJ_st, qJ_go, qfl_I, qfl_Z, qfl_L, qfl_R, qrI_i, qrL_l, qrV_v, qRcv_0, qRcv_s, eq_self, true_and, and_true, true_or, or_true, false_and, and_false, false_or, or_false, ite_true, if_true, if_false, Bool.true_or, Bool.false_or, Bool.or_false, beq_self_eq_true, Bool.false_eq_true, bX1_upSet_0, bX1_upSet_11, bX1_upSet_50, bX1_upSet_56, kX1_upSet_0, kX1_upSet_11, kX1_upSet_50, kX1_upSet_56, zCb_k hr, zCb_6 hr, zCb_7 hr, zCb_8 hr, zCb_9 hr, zCb_10 hr, zCb_11 hr, zCb_12 hr, zCb_13 hr, zCb_14 hr, zCb_15 hr, zCb_16 hr, zCb_a1 hr, zCb_a2 hr, zCb_a3 hr, zCb_a4 hr, zCb_a5 hr, zCb_a6 hr, zCb_a7 hr, zCb_a8 hr, zCb_a9 hr, zCb_a10 hr, zCb_a11 hr]
  rw [h.b, qshl1 (by omega), nI_sub (by omega), ← zupq_0]
  refine qdown (n := C 0 1) (P := fun q => qV 22 1 (.inl fun r' σ' => r' = nI (zups C) ∧ σ' = σ) 11 [some (qr r), some (qi (nI (zupq C q))), some (qi (nI q))] [] σ) (fun q hq ih => ?_) 0 (Nat.zero_le _)
  refine qV.go 30 [11, 50] ok_22 ?_
  simp only [qW_nop, qW_iconst, qW_iconstm, qW_iloadn, qW_aloadn, qW_istoren, qW_iinc, qW_isub, qW_iand, qW_ior, qW_ixor, qW_ishl, qW_ifne, qW_icge, qW_goto, qW_getf, qW_iald, qW_iret0, Nat.reduceAdd, Nat.reduceMul, Nat.reduceBEq, Nat.reduceEqDiff, Nat.reduceLT, Nat.reduceLeDiff, Nat.zero_le, nI_add, nI_mul, nI_cl, qin_eq, qofI, qlg_0, qlg_s, qls_i0, qls_r0, qls_l0, qls_1, qls_2, qkl_i, qkl_r, qkl_l, qkl_n, qIsI_i, qIsL_l, qIsR_r, qint_i, qil_i, qil_r, qil_l, qf4_0, qf4_1, qf4_2, qf4_3, qf2_0, qf2_1, qcs_n, qcs_i, qcs_r, qcs_l, qst_n, qst_c, qJ_0, qJ_st, qJ_go, qfl_I, qfl_Z, qfl_L, qfl_R, qrI_i, qrL_l, qrV_v, qRcv_0, qRcv_s, eq_self, true_and, and_true, true_or, or_true, false_and, and_false, false_or, or_false, ite_true, if_true, if_false, Bool.true_or, Bool.false_or, Bool.or_false, beq_self_eq_true, Bool.false_eq_true, bX1_upSet_0, bX1_upSet_11, bX1_upSet_50, bX1_upSet_56, kX1_upSet_0, kX1_upSet_11, kX1_upSet_50, kX1_upSet_56, zCb_k hr, zCb_6 hr, zCb_7 hr, zCb_8 hr, zCb_9 hr, zCb_10 hr, zCb_11 hr, zCb_12 hr, zCb_13 hr, zCb_14 hr, zCb_15 hr, zCb_16 hr, zCb_a1 hr, zCb_a2 hr, zCb_a3 hr, zCb_a4 hr, zCb_a5 hr, zCb_a6 hr, zCb_a7 hr, zCb_a8 hr, zCb_a9 hr, zCb_a10 hr, zCb_a11 hr]
  rw [h.q]
  simp (disch := omega) only [nI_leI, nI_ltI, nI_eq, nI_cl, qin_eq, nI_add, nI_mul, qb_z, qb_t, qb_f, nI_ne0', Nat.reduceAdd, Bool.false_eq_true, if_false, if_true, true_and, and_true, Nat.reduceEqDiff, not_true_eq_false, not_false_eq_true, false_implies, true_implies, ite_true, ite_false]
  refine ⟨fun g => ?_, fun g => ?_⟩
  · have : q = C 0 1 := by omega
    subst this
    rw [zupq_n]
  · have hq1 : q < C 0 1 := by omega
    have g9 := wQ q hq1
    have st : ∀ v, v = nI (zupq C (q + 1)) → qV 22 1 (.inl fun r' σ' => r' = nI (zups C) ∧ σ' = σ) 50 [some (qr r), some (qi v), some (qi (nI q))] [] σ := by
      intro v hv
      subst hv
      refine qV.go 30 [11] ok_22 ?_
      simp only [qW_nop, qW_iconst, qW_iconstm, qW_iloadn, qW_aloadn, qW_istoren, qW_iinc, qW_isub, qW_iand, qW_ior, qW_ixor, qW_ishl, qW_ifne, qW_icge, qW_goto, qW_getf, qW_iald, qW_iret0, Nat.reduceAdd, Nat.reduceMul, Nat.reduceBEq, Nat.reduceEqDiff, Nat.reduceLT, Nat.reduceLeDiff, Nat.zero_le, nI_add, nI_mul, nI_cl, qin_eq, qofI, qlg_0, qlg_s, qls_i0, qls_r0, qls_l0, qls_1, qls_2, qkl_i, qkl_r, qkl_l, qkl_n, qIsI_i, qIsL_l, qIsR_r, qint_i, qil_i, qil_r, qil_l, qf4_0, qf4_1, qf4_2, qf4_3, qf2_0, qf2_1, qcs_n, qcs_i, qcs_r, qcs_l, qst_n, qst_c, qJ_0, qJ_st, qJ_go, qfl_I, qfl_Z, qfl_L, qfl_R, qrI_i, qrL_l, qrV_v, qRcv_0, qRcv_s, eq_self, true_and, and_true, true_or, or_true, false_and, and_false, false_or, or_false, ite_true, if_true, if_false, Bool.true_or, Bool.false_or, Bool.or_false, beq_self_eq_true, Bool.false_eq_true, bX1_upSet_0, bX1_upSet_11, bX1_upSet_50, bX1_upSet_56, kX1_upSet_0, kX1_upSet_11, kX1_upSet_50, kX1_upSet_56, zCb_k hr, zCb_6 hr, zCb_7 hr, zCb_8 hr, zCb_9 hr, zCb_10 hr, zCb_11 hr, zCb_12 hr, zCb_13 hr, zCb_14 hr, zCb_15 hr, zCb_16 hr, zCb_a1 hr, zCb_a2 hr, zCb_a3 hr, zCb_a4 hr, zCb_a5 hr, zCb_a6 hr, zCb_a7 hr, zCb_a8 hr, zCb_a9 hr, zCb_a10 hr, zCb_a11 hr]
      exact ih hq1
    rw [h.en hq1, h.fi hq1, h.se hq1]
    simp (disch := omega) only [nI_leI, nI_ltI, nI_eq, nI_cl, qin_eq, nI_add, nI_mul, qb_z, qb_t, qb_f, nI_ne0', Nat.reduceAdd, Bool.false_eq_true, if_false, if_true, true_and, and_true, Nat.reduceEqDiff, not_true_eq_false, not_false_eq_true, false_implies, true_implies, ite_true, ite_false]
    refine ⟨fun h1 => st _ (by rw [zupq_no (decide_eq_false h1)]), fun h1 => st _ ?_⟩
    rw [qshl1 (by omega), qshl1 (by omega), nI_or, zupq_yes (decide_eq_true h1)]
    exact nI_notin _ _
theorem zand_p0 (s k : Nat) : (s &&& 2 ^ k = 0) = (s.testBit k = false) := by
  apply propext
  constructor
  · intro h
    have := congrArg (fun n => n.testBit k) h
    simp [Nat.testBit_and, Nat.testBit_two_pow] at this
    exact this
  · intro h
    apply Nat.eq_of_testBit_eq
    intro i
    rw [Nat.testBit_and, Nat.testBit_two_pow, Nat.zero_testBit]
    by_cases e : k = i
    · subst e; rw [h]; rfl
    · rw [decide_eq_false e, Bool.and_false]
theorem nI_and0 {s k : Nat} (hs : s < 2147483648) : (nI s &&& nI (2 ^ k) = 0) = (s.testBit k = false) := by
  rw [nI_and, nI_ne0' (Nat.lt_of_le_of_lt Nat.and_le_left hs), zand_p0]
theorem zups_bit {C : zC} {b : Nat} (hb : b < C 0 0) : (zups C).testBit b = zUp C b := by
  unfold zups
  rw [bm_bit, decide_eq_true hb, Bool.true_and]
set_option maxRecDepth 20000 in
theorem x_isUp {σ : qSg} {r : Nat} {C : zC} (hr : zCb r) (h : zX0 σ r C) (hw : zW C) {b : Nat} (hb : b < C 0 0) : qFI 2 21 [qr r, qi (nI b)] σ (qb (zUp C b)) := by
  obtain ⟨wb, wq, ww1, ww2, wh1, wh2, wo, wm, wB, wQ⟩ := id hw
  have hl := zups_lt hw
  refine qCI.of [some (qr r), some (qi (nI b))] ok_21 (Nat.le_of_ble_eq_true rfl) rfl ?_
  refine qV.go 30 [9999] ok_21 ?_
  simp only [qW_nop, qW_iconst, qW_iloadn, qW_aloadn, qW_iand, qW_ishl, qW_ifeq, qW_goto, qW_cv1_0, qW_iret1, Nat.reduceAdd, Nat.reduceMul, Nat.reduceBEq, Nat.reduceEqDiff, Nat.reduceLT, Nat.reduceLeDiff, Nat.zero_le, nI_add, nI_mul, nI_cl, qin_eq, qofI, qlg_0, qlg_s, qls_i0, qls_r0, qls_l0, qls_1, qls_2, qkl_i, qkl_r, qkl_l, qkl_n, qIsI_i, qIsL_l, qIsR_r, qint_i, qil_i, qil_r, qil_l, qf4_0, qf4_1, qf4_2, qf4_3, qf2_0, qf2_1, qcs_n, qcs_i, qcs_r, qcs_l, qst_n, qst_c, qJ_0, qJ_st, qJ_go, qfl_I, qfl_Z, qfl_L, qfl_R, qrI_i, qrL_l, qrV_v, qRcv_0, qRcv_s, eq_self, true_and, and_true, true_or, or_true, false_and, and_false, false_or, or_false, ite_true, if_true, if_false, Bool.true_or, Bool.false_or, Bool.or_false, beq_self_eq_true, Bool.false_eq_true, bX1_isUp_0, bX1_isUp_15, bX1_isUp_16, kX1_isUp_0, kX1_isUp_15, kX1_isUp_16, zCb_k hr, zCb_6 hr, zCb_7 hr, zCb_8 hr, zCb_9 hr, zCb_10 hr, zCb_11 hr, zCb_12 hr, zCb_13 hr, zCb_14 hr, zCb_15 hr, zCb_16 hr, zCb_a1 hr, zCb_a2 hr, zCb_a3 hr, zCb_a4 hr, zCb_a5 hr, zCb_a6 hr, zCb_a7 hr, zCb_a8 hr, zCb_a9 hr, zCb_a10 hr, zCb_a11 hr]
  refine qBI.fn (x_upSet hr h hw) (by decide) ?_
  rw [qshl1 (by omega)]
  simp only [nI_and0 (show zups C < 2147483648 by omega), zups_bit hb]
  cases zUp C b <;> simp [qb]
