/-! the class: trays -/
def zXT (σ : qSg) (T : zT) : Prop := ∀ t, t < 4 → (T.2.1 t = none → σ.1 47 t = iI (-1)) ∧ ∀ n, T.2.1 t = some n → σ.1 47 t = nI (T.1 t) ∧ σ.1 48 t = nI n ∧ ∀ j, j < n → σ.2 49 (60 * t + j) = T.2.2 t j
def zlaid (T : zT) (x : Int32) : Bool := zrg x 4 && (T.2.1 x.toInt.toNat).isSome
/-- how many there are in it -/
def zsz (T : zT) (t : Nat) : Nat := (T.2.1 t).getD 0
def zhold (T : zT) (x p m : Int32) : Bool := zlaid T x && (decide (0 ≤ p.toInt) && (decide (0 ≤ m.toInt) && decide (p.toInt + m.toInt ≤ (zsz T x.toInt.toNat : Int))))
set_option maxRecDepth 20000 in
theorem x_known (σ : qSg) (x : Int32) : qFI 1 109 [qr 46, qi x] σ (qb (zrg x 4)) := by
  refine qCI.of [some (qr 46), some (qi x)] ok_109 (Nat.le_of_ble_eq_true rfl) rfl ?_
  refine qV.go 30 [9999] ok_109 ?_
  simp only [qW_nop, qW_iconst, qW_iloadn, qW_iflt, qW_icge, qW_goto, qW_iret1, Nat.reduceAdd, Nat.reduceMul, Nat.reduceBEq, Nat.reduceEqDiff, Nat.reduceLT, Nat.reduceLeDiff, Nat.zero_le, nI_add, nI_mul, nI_cl, qin_eq, qofI, qlg_0, qlg_s, qls_i0, qls_r0, qls_l0, qls_1, qls_2, qkl_i, qkl_r, qkl_l, qkl_n, qIsI_i, qIsL_l, qIsR_r, qint_i, qil_i, qil_r, qil_l, qf4_0, qf4_1, qf4_2, qf4_3, qf2_0, qf2_1, qcs_n, qcs_i, qcs_r, qcs_l, qst_n, qst_c, qJ_0, qJ_st, qJ_go, qfl_I, qfl_Z, qfl_L, qfl_R, qrI_i, qrL_l, qrV_v, qRcv_0, qRcv_s, eq_self, true_and, and_true, true_or, or_true, false_and, and_false, false_or, or_false, ite_true, if_true, if_false, Bool.true_or, Bool.false_or, Bool.or_false, beq_self_eq_true, Bool.false_eq_true, bX8_known_0, bX8_known_13, bX8_known_14, kX8_known_0, kX8_known_13, kX8_known_14, qK_46, qR_46_0, qK_47, qR_46_1, qK_48, qR_46_2, qK_49]
  simp only [z0i, qlt, qle, nI_t (show 4 < 2147483648 by decide)]
  unfold zrg
  refine ⟨fun g => ?_, fun g => ⟨fun g2 => ?_, fun g2 => ?_⟩⟩
  · rw [decide_eq_false (p := 0 ≤ x.toInt) (by omega)]; rfl
  · rw [decide_eq_false (p := x.toInt < (4 : Nat)) (by omega), Bool.and_false]; rfl
  · rw [decide_eq_true (p := 0 ≤ x.toInt) (by omega), decide_eq_true (p := x.toInt < (4 : Nat)) (by omega)]; rfl
theorem nI_nem {n : Nat} (h : n < 2147483648) : ¬ nI n = iI (-1) := by
  rw [qeq, nI_t h, iI_toInt (by decide) (by decide)]
  omega
set_option maxRecDepth 20000 in
theorem x_laid {σ : qSg} {T : zT} (h : zXT σ T) (hT : zTW T) (x : Int32) : qFI 2 110 [qr 46, qi x] σ (qb (zlaid T x)) := by
  refine qCI.of [some (qr 46), some (qi x)] ok_110 (Nat.le_of_ble_eq_true rfl) rfl ?_
  refine qV.go 30 [9999] ok_110 ?_
  simp only [qW_nop, qW_iconst, qW_iconstm, qW_iloadn, qW_aloadn, qW_ifeq, qW_iceq, qW_goto, qW_getf, qW_iald, qW_cv2_0, qW_iret1, Nat.reduceAdd, Nat.reduceMul, Nat.reduceBEq, Nat.reduceEqDiff, Nat.reduceLT, Nat.reduceLeDiff, Nat.zero_le, nI_add, nI_mul, nI_cl, qin_eq, qofI, qlg_0, qlg_s, qls_i0, qls_r0, qls_l0, qls_1, qls_2, qkl_i, qkl_r, qkl_l, qkl_n, qIsI_i, qIsL_l, qIsR_r, qint_i, qil_i, qil_r, qil_l, qf4_0, qf4_1, qf4_2, qf4_3, qf2_0, qf2_1, qcs_n, qcs_i, qcs_r, qcs_l, qst_n, qst_c, qJ_0, qJ_st, qJ_go, qfl_I, qfl_Z, qfl_L, qfl_R, qrI_i, qrL_l, qrV_v, qRcv_0, qRcv_s, eq_self, true_and, and_true, true_or, or_true, false_and, and_false, false_or, or_false, ite_true, if_true, if_false, Bool.true_or, Bool.false_or, Bool.or_false, beq_self_eq_true, Bool.false_eq_true, bX8_laid_0, bX8_laid_22, bX8_laid_23, kX8_laid_0, kX8_laid_22, kX8_laid_23, qK_46, qR_46_0, qK_47, qR_46_1, qK_48, qR_46_2, qK_49]
  refine qBI.fn (x_known σ x) (by decide) ?_
  unfold zlaid
  cases hx : zrg x 4 with
  | false =>
    simp (disch := omega) only [nI_leI, nI_ltI, nI_eq, nI_cl, qin_eq, nI_add, nI_mul, qb_z, qb_t, qb_f, nI_ne0', Nat.reduceAdd, Bool.false_eq_true, if_false, if_true, true_and, and_true, Nat.reduceEqDiff, not_true_eq_false, not_false_eq_true, false_implies, true_implies, ite_true, ite_false]
    rfl
  | true =>
    obtain ⟨t, ht, rfl⟩ := zrg_nI hx
    obtain ⟨h1, h2⟩ := h t ht
    rw [nI_tn (by omega)]
    simp (disch := omega) only [nI_leI, nI_ltI, nI_eq, nI_cl, qin_eq, nI_add, nI_mul, qb_z, qb_t, qb_f, nI_ne0', Nat.reduceAdd, Bool.false_eq_true, if_false, if_true, true_and, and_true, Nat.reduceEqDiff, not_true_eq_false, not_false_eq_true, false_implies, true_implies, ite_true, ite_false]
    cases e : T.2.1 t with
    | none =>
      rw [h1 e]
      exact ⟨fun _ => rfl, fun g => absurd rfl g⟩
    | some n =>
      obtain ⟨h3, -⟩ := h2 n e
      rw [h3]
      have := (hT t ht).1
      exact ⟨fun g => absurd g (nI_nem (by omega)), fun _ => rfl⟩
set_option maxRecDepth 20000 in
theorem x_alikeT {σ : qSg} {T : zT} (h : zXT σ T) (hT : zTW T) {a b n m : Nat} (ha : a < 4) (hb : b < 4) (hn : T.2.1 a = some n) (hm : T.2.1 b = some m) : qFI 2 111 [qr 46, qi (nI a), qi (nI b)] σ (qb (decide (T.1 a = T.1 b))) := by
  refine qCI.of [some (qr 46), some (qi (nI a)), some (qi (nI b))] ok_111 (Nat.le_of_ble_eq_true rfl) rfl ?_
  refine qV.go 30 [9999] ok_111 ?_
  simp only [qW_nop, qW_iconst, qW_iloadn, qW_aloadn, qW_ifeq, qW_icne, qW_goto, qW_getf, qW_iald, qW_cv2_0, qW_iret1, Nat.reduceAdd, Nat.reduceMul, Nat.reduceBEq, Nat.reduceEqDiff, Nat.reduceLT, Nat.reduceLeDiff, Nat.zero_le, nI_add, nI_mul, nI_cl, qin_eq, qofI, qlg_0, qlg_s, qls_i0, qls_r0, qls_l0, qls_1, qls_2, qkl_i, qkl_r, qkl_l, qkl_n, qIsI_i, qIsL_l, qIsR_r, qint_i, qil_i, qil_r, qil_l, qf4_0, qf4_1, qf4_2, qf4_3, qf2_0, qf2_1, qcs_n, qcs_i, qcs_r, qcs_l, qst_n, qst_c, qJ_0, qJ_st, qJ_go, qfl_I, qfl_Z, qfl_L, qfl_R, qrI_i, qrL_l, qrV_v, qRcv_0, qRcv_s, eq_self, true_and, and_true, true_or, or_true, false_and, and_false, false_or, or_false, ite_true, if_true, if_false, Bool.true_or, Bool.false_or, Bool.or_false, beq_self_eq_true, Bool.false_eq_true, bX8_alike_0, bX8_alike_35, bX8_alike_36, kX8_alike_0, kX8_alike_35, kX8_alike_36, qK_46, qR_46_0, qK_47, qR_46_1, qK_48, qR_46_2, qK_49]
  refine qBI.fn (x_known σ _) (by decide) ?_
  rw [zrg_k ha (by decide)]
  simp (disch := omega) only [nI_leI, nI_ltI, nI_eq, nI_cl, qin_eq, nI_add, nI_mul, qb_z, qb_t, qb_f, nI_ne0', Nat.reduceAdd, Bool.false_eq_true, if_false, if_true, true_and, and_true, Nat.reduceEqDiff, not_true_eq_false, not_false_eq_true, false_implies, true_implies, ite_true, ite_false]
  refine qBI.fn (x_known σ _) (by decide) ?_
  rw [zrg_k hb (by decide), ((h a ha).2 n hn).1, ((h b hb).2 m hm).1]
  have := (hT a ha).1
  have := (hT b hb).1
  simp (disch := omega) only [nI_leI, nI_ltI, nI_eq, nI_cl, qin_eq, nI_add, nI_mul, qb_z, qb_t, qb_f, nI_ne0', Nat.reduceAdd, Bool.false_eq_true, if_false, if_true, true_and, and_true, Nat.reduceEqDiff, not_true_eq_false, not_false_eq_true, false_implies, true_implies, ite_true, ite_false]
  exact ⟨fun g => by rw [decide_eq_false g]; rfl, fun g => by rw [decide_eq_true g]; rfl⟩
set_option maxRecDepth 20000 in
theorem x_has {σ : qSg} {T : zT} (h : zXT σ T) (hT : zTW T) (x p : Int32) : qFI 3 112 [qr 46, qi x, qi p] σ (qb (zlaid T x && zrg p (zsz T x.toInt.toNat))) := by
  refine qCI.of [some (qr 46), some (qi x), some (qi p)] ok_112 (Nat.le_of_ble_eq_true rfl) rfl ?_
  refine qV.go 30 [9999] ok_112 ?_
  simp only [qW_nop, qW_iconst, qW_iloadn, qW_aloadn, qW_ifeq, qW_iflt, qW_icge, qW_goto, qW_getf, qW_iald, qW_cv2_0, qW_iret1, Nat.reduceAdd, Nat.reduceMul, Nat.reduceBEq, Nat.reduceEqDiff, Nat.reduceLT, Nat.reduceLeDiff, Nat.zero_le, nI_add, nI_mul, nI_cl, qin_eq, qofI, qlg_0, qlg_s, qls_i0, qls_r0, qls_l0, qls_1, qls_2, qkl_i, qkl_r, qkl_l, qkl_n, qIsI_i, qIsL_l, qIsR_r, qint_i, qil_i, qil_r, qil_l, qf4_0, qf4_1, qf4_2, qf4_3, qf2_0, qf2_1, qcs_n, qcs_i, qcs_r, qcs_l, qst_n, qst_c, qJ_0, qJ_st, qJ_go, qfl_I, qfl_Z, qfl_L, qfl_R, qrI_i, qrL_l, qrV_v, qRcv_0, qRcv_s, eq_self, true_and, and_true, true_or, or_true, false_and, and_false, false_or, or_false, ite_true, if_true, if_false, Bool.true_or, Bool.false_or, Bool.or_false, beq_self_eq_true, Bool.false_eq_true, bX8_has_0, bX8_has_26, bX8_has_27, kX8_has_0, kX8_has_26, kX8_has_27, qK_46, qR_46_0, qK_47, qR_46_1, qK_48, qR_46_2, qK_49]
  refine qBI.fn (x_laid h hT x) (by decide) ?_
  cases hx : zlaid T x with
  | false =>
    simp (disch := omega) only [nI_leI, nI_ltI, nI_eq, nI_cl, qin_eq, nI_add, nI_mul, qb_z, qb_t, qb_f, nI_ne0', Nat.reduceAdd, Bool.false_eq_true, if_false, if_true, true_and, and_true, Nat.reduceEqDiff, not_true_eq_false, not_false_eq_true, false_implies, true_implies, ite_true, ite_false]
    rfl
  | true =>
    unfold zlaid at hx
    simp only [Bool.and_eq_true] at hx
    obtain ⟨hx1, hx2⟩ := hx
    obtain ⟨t, ht, rfl⟩ := zrg_nI hx1
    rw [nI_tn (by omega)] at hx2 ⊢
    obtain ⟨n, hn⟩ := Option.isSome_iff_exists.mp hx2
    have hs := ((h t ht).2 n hn).2.1
    have hn60 := (hT t ht).2 n hn
    simp (disch := omega) only [nI_leI, nI_ltI, nI_eq, nI_cl, qin_eq, nI_add, nI_mul, qb_z, qb_t, qb_f, nI_ne0', Nat.reduceAdd, Bool.false_eq_true, if_false, if_true, true_and, and_true, Nat.reduceEqDiff, not_true_eq_false, not_false_eq_true, false_implies, true_implies, ite_true, ite_false]
    rw [hs]
    simp only [z0i, qlt, qle, nI_t (show n < 2147483648 by omega)]
    have ez : zsz T t = n := by unfold zsz; rw [hn]; rfl
    rw [ez]
    unfold zrg
    refine ⟨fun g => ?_, fun g => ⟨fun g2 => ?_, fun g2 => ?_⟩⟩
    · rw [decide_eq_false (p := 0 ≤ p.toInt) (by omega)]; rfl
    · rw [decide_eq_false (p := p.toInt < (n : Nat)) (by omega), Bool.and_false]; rfl
    · rw [decide_eq_true (p := 0 ≤ p.toInt) (by omega), decide_eq_true (p := p.toInt < (n : Nat)) (by omega)]; rfl
set_option maxRecDepth 20000 in
theorem x_holds {σ : qSg} {T : zT} (h : zXT σ T) (hT : zTW T) (x p m : Int32) : qFI 3 113 [qr 46, qi x, qi p, qi m] σ (qb (zhold T x p m)) := by
  refine qCI.of [some (qr 46), some (qi x), some (qi p), some (qi m)] ok_113 (Nat.le_of_ble_eq_true rfl) rfl ?_
  refine qV.go 30 [9999] ok_113 ?_
  simp only [qW_nop, qW_iconst, qW_iloadn, qW_aloadn, qW_isub, qW_ifeq, qW_iflt, qW_icgt, qW_goto, qW_getf, qW_iald, qW_cv2_0, qW_iret1, Nat.reduceAdd, Nat.reduceMul, Nat.reduceBEq, Nat.reduceEqDiff, Nat.reduceLT, Nat.reduceLeDiff, Nat.zero_le, nI_add, nI_mul, nI_cl, qin_eq, qofI, qlg_0, qlg_s, qls_i0, qls_r0, qls_l0, qls_1, qls_2, qkl_i, qkl_r, qkl_l, qkl_n, qIsI_i, qIsL_l, qIsR_r, qint_i, qil_i, qil_r, qil_l, qf4_0, qf4_1, qf4_2, qf4_3, qf2_0, qf2_1, qcs_n, qcs_i, qcs_r, qcs_l, qst_n, qst_c, qJ_0, qJ_st, qJ_go, qfl_I, qfl_Z, qfl_L, qfl_R, qrI_i, qrL_l, qrV_v, qRcv_0, qRcv_s, eq_self, true_and, and_true, true_or, or_true, false_and, and_false, false_or, or_false, ite_true, if_true, if_false, Bool.true_or, Bool.false_or, Bool.or_false, beq_self_eq_true, Bool.false_eq_true, bX8_holds_0, bX8_holds_42, bX8_holds_43, kX8_holds_0, kX8_holds_42, kX8_holds_43, qK_46, qR_46_0, qK_47, qR_46_1, qK_48, qR_46_2, qK_49]
  refine qBI.fn (x_laid h hT x) (by decide) ?_
  unfold zhold
  cases hx : zlaid T x with
  | false =>
    simp (disch := omega) only [nI_leI, nI_ltI, nI_eq, nI_cl, qin_eq, nI_add, nI_mul, qb_z, qb_t, qb_f, nI_ne0', Nat.reduceAdd, Bool.false_eq_true, if_false, if_true, true_and, and_true, Nat.reduceEqDiff, not_true_eq_false, not_false_eq_true, false_implies, true_implies, ite_true, ite_false]
    rfl
  | true =>
    unfold zlaid at hx
    simp only [Bool.and_eq_true] at hx
    obtain ⟨hx1, hx2⟩ := hx
    obtain ⟨t, ht, rfl⟩ := zrg_nI hx1
    rw [nI_tn (by omega)] at hx2 ⊢
    obtain ⟨n, hn⟩ := Option.isSome_iff_exists.mp hx2
    have hs := ((h t ht).2 n hn).2.1
    have hn60 := (hT t ht).2 n hn
    simp (disch := omega) only [nI_leI, nI_ltI, nI_eq, nI_cl, qin_eq, nI_add, nI_mul, qb_z, qb_t, qb_f, nI_ne0', Nat.reduceAdd, Bool.false_eq_true, if_false, if_true, true_and, and_true, Nat.reduceEqDiff, not_true_eq_false, not_false_eq_true, false_implies, true_implies, ite_true, ite_false]
    rw [hs]
    have ez : zsz T t = n := by unfold zsz; rw [hn]; rfl
    rw [ez, Bool.true_and]
    by_cases g1 : 0 ≤ p.toInt
    · by_cases g2 : p.toInt ≤ n
      · have ep : p = nI p.toInt.toNat := by
          apply Int32.toInt_inj.mp
          rw [nI_t (by omega)]
          omega
        have es : nI n - p = nI (n - p.toInt.toNat) := by
          rw [ep, nI_tn (by omega), nI_sub (by omega)]
        rw [es]
        simp only [z0i, qlt, qle, nI_t (show n < 2147483648 by omega), nI_t (show n - p.toInt.toNat < 2147483648 by omega)]
        refine ⟨fun g => by omega, fun _ => ⟨fun g => ?_, fun g => ⟨fun g3 => by omega, fun g3 => ⟨fun g4 => ?_, fun g4 => ?_⟩⟩⟩⟩
        · rw [decide_eq_false (p := 0 ≤ m.toInt) (by omega), Bool.false_and, Bool.and_false]; rfl
        · rw [decide_eq_false (p := p.toInt + m.toInt ≤ (n : Int)) (by omega), Bool.and_false, Bool.and_false]; rfl
        · rw [decide_eq_true g1, decide_eq_true (p := 0 ≤ m.toInt) (by omega), decide_eq_true (p := p.toInt + m.toInt ≤ (n : Int)) (by omega)]; rfl
      · have ef : (decide (0 ≤ p.toInt) && (decide (0 ≤ m.toInt) && decide (p.toInt + m.toInt ≤ (n : Int)))) = false := by
          by_cases g3 : 0 ≤ m.toInt
          · rw [decide_eq_false (p := p.toInt + m.toInt ≤ (n : Int)) (by omega), Bool.and_false, Bool.and_false]
          · rw [decide_eq_false g3, Bool.false_and, Bool.and_false]
        rw [ef]
        simp only [z0i, qlt, qle, nI_t (show n < 2147483648 by omega)]
        exact ⟨fun _ => rfl, fun _ => ⟨fun _ => rfl, fun _ => ⟨fun _ => rfl, fun g => absurd (show p.toInt ≤ n by omega) g2⟩⟩⟩
    · rw [decide_eq_false g1, Bool.false_and]
      simp only [qlt, z0i]
      exact ⟨fun _ => rfl, fun g => absurd (show 0 ≤ p.toInt by omega) g1⟩
set_option maxRecDepth 20000 in
theorem x_cut (σ : qSg) (v : Int64) {s : Nat} (hs : s ≤ 3) : qFL 1 118 [ql v, qi (nI s)] σ (zcut v s) := by
  refine qCL.of [some (ql v), none, some (qi (nI s))] ok_118 (Nat.le_of_ble_eq_true rfl) rfl ?_
  refine qV.go 30 [28, 33, 38, 42] ok_118 ?_
  simp only [qW_nop, qW_iloadn, qW_lloadn, qW_i2l, qW_l2i, qW_i2b, qW_i2s, qW_tsw, qW_lret, Nat.reduceAdd, Nat.reduceMul, Nat.reduceBEq, Nat.reduceEqDiff, Nat.reduceLT, Nat.reduceLeDiff, Nat.zero_le, nI_add, nI_mul, nI_cl, qin_eq, qofI, qlg_0, qlg_s, qls_i0, qls_r0, qls_l0, qls_1, qls_2, qkl_i, qkl_r, qkl_l, qkl_n, qIsI_i, qIsL_l, qIsR_r, qint_i, qil_i, qil_r, qil_l, qf4_0, qf4_1, qf4_2, qf4_3, qf2_0, qf2_1, qcs_n, qcs_i, qcs_r, qcs_l, qst_n, qst_c, qJ_0, qJ_st, qJ_go, qfl_I, qfl_Z, qfl_L, qfl_R, qrI_i, qrL_l, qrV_v, qRcv_0, qRcv_s, eq_self, true_and, and_true, true_or, or_true, false_and, and_false, false_or, or_false, ite_true, if_true, if_false, Bool.true_or, Bool.false_or, Bool.or_false, beq_self_eq_true, Bool.false_eq_true, bX8_cut_0, bX8_cut_28, bX8_cut_33, bX8_cut_38, bX8_cut_42, kX8_cut_0, kX8_cut_28, kX8_cut_33, kX8_cut_38, kX8_cut_42]
  rw [qsw]
  simp only [qsl, nI_t (show s < 2147483648 by omega)]
  unfold zcut
  refine ⟨fun g => ?_, fun g => ?_, fun g => ?_, fun g => ?_, trivial⟩
  · rw [if_neg (by omega), if_neg (by omega), if_neg (by omega), qJ_st _ _ _ _ _ (by rfl)]
    refine qV.go 30 [9999] ok_118 ?_
    simp only [qW_nop, qW_iloadn, qW_lloadn, qW_i2l, qW_l2i, qW_i2b, qW_i2s, qW_tsw, qW_lret, Nat.reduceAdd, Nat.reduceMul, Nat.reduceBEq, Nat.reduceEqDiff, Nat.reduceLT, Nat.reduceLeDiff, Nat.zero_le, nI_add, nI_mul, nI_cl, qin_eq, qofI, qlg_0, qlg_s, qls_i0, qls_r0, qls_l0, qls_1, qls_2, qkl_i, qkl_r, qkl_l, qkl_n, qIsI_i, qIsL_l, qIsR_r, qint_i, qil_i, qil_r, qil_l, qf4_0, qf4_1, qf4_2, qf4_3, qf2_0, qf2_1, qcs_n, qcs_i, qcs_r, qcs_l, qst_n, qst_c, qJ_0, qJ_st, qJ_go, qfl_I, qfl_Z, qfl_L, qfl_R, qrI_i, qrL_l, qrV_v, qRcv_0, qRcv_s, eq_self, true_and, and_true, true_or, or_true, false_and, and_false, false_or, or_false, ite_true, if_true, if_false, Bool.true_or, Bool.false_or, Bool.or_false, beq_self_eq_true, Bool.false_eq_true, bX8_cut_0, bX8_cut_28, bX8_cut_33, bX8_cut_38, bX8_cut_42, kX8_cut_0, kX8_cut_28, kX8_cut_33, kX8_cut_38, kX8_cut_42]
  · rw [if_pos (by omega), qJ_st _ _ _ _ _ (by rfl)]
    refine qV.go 30 [9999] ok_118 ?_
    simp only [qW_nop, qW_iloadn, qW_lloadn, qW_i2l, qW_l2i, qW_i2b, qW_i2s, qW_tsw, qW_lret, Nat.reduceAdd, Nat.reduceMul, Nat.reduceBEq, Nat.reduceEqDiff, Nat.reduceLT, Nat.reduceLeDiff, Nat.zero_le, nI_add, nI_mul, nI_cl, qin_eq, qofI, qlg_0, qlg_s, qls_i0, qls_r0, qls_l0, qls_1, qls_2, qkl_i, qkl_r, qkl_l, qkl_n, qIsI_i, qIsL_l, qIsR_r, qint_i, qil_i, qil_r, qil_l, qf4_0, qf4_1, qf4_2, qf4_3, qf2_0, qf2_1, qcs_n, qcs_i, qcs_r, qcs_l, qst_n, qst_c, qJ_0, qJ_st, qJ_go, qfl_I, qfl_Z, qfl_L, qfl_R, qrI_i, qrL_l, qrV_v, qRcv_0, qRcv_s, eq_self, true_and, and_true, true_or, or_true, false_and, and_false, false_or, or_false, ite_true, if_true, if_false, Bool.true_or, Bool.false_or, Bool.or_false, beq_self_eq_true, Bool.false_eq_true, bX8_cut_0, bX8_cut_28, bX8_cut_33, bX8_cut_38, bX8_cut_42, kX8_cut_0, kX8_cut_28, kX8_cut_33, kX8_cut_38, kX8_cut_42]
  · rw [if_neg (by omega), if_pos (by omega), qJ_st _ _ _ _ _ (by rfl)]
    refine qV.go 30 [9999] ok_118 ?_
    simp only [qW_nop, qW_iloadn, qW_lloadn, qW_i2l, qW_l2i, qW_i2b, qW_i2s, qW_tsw, qW_lret, Nat.reduceAdd, Nat.reduceMul, Nat.reduceBEq, Nat.reduceEqDiff, Nat.reduceLT, Nat.reduceLeDiff, Nat.zero_le, nI_add, nI_mul, nI_cl, qin_eq, qofI, qlg_0, qlg_s, qls_i0, qls_r0, qls_l0, qls_1, qls_2, qkl_i, qkl_r, qkl_l, qkl_n, qIsI_i, qIsL_l, qIsR_r, qint_i, qil_i, qil_r, qil_l, qf4_0, qf4_1, qf4_2, qf4_3, qf2_0, qf2_1, qcs_n, qcs_i, qcs_r, qcs_l, qst_n, qst_c, qJ_0, qJ_st, qJ_go, qfl_I, qfl_Z, qfl_L, qfl_R, qrI_i, qrL_l, qrV_v, qRcv_0, qRcv_s, eq_self, true_and, and_true, true_or, or_true, false_and, and_false, false_or, or_false, ite_true, if_true, if_false, Bool.true_or, Bool.false_or, Bool.or_false, beq_self_eq_true, Bool.false_eq_true, bX8_cut_0, bX8_cut_28, bX8_cut_33, bX8_cut_38, bX8_cut_42, kX8_cut_0, kX8_cut_28, kX8_cut_33, kX8_cut_38, kX8_cut_42]
  · rw [if_neg (by omega), if_neg (by omega), if_pos (by omega), qJ_st _ _ _ _ _ (by rfl)]
    refine qV.go 30 [9999] ok_118 ?_
    simp only [qW_nop, qW_iloadn, qW_lloadn, qW_i2l, qW_l2i, qW_i2b, qW_i2s, qW_tsw, qW_lret, Nat.reduceAdd, Nat.reduceMul, Nat.reduceBEq, Nat.reduceEqDiff, Nat.reduceLT, Nat.reduceLeDiff, Nat.zero_le, nI_add, nI_mul, nI_cl, qin_eq, qofI, qlg_0, qlg_s, qls_i0, qls_r0, qls_l0, qls_1, qls_2, qkl_i, qkl_r, qkl_l, qkl_n, qIsI_i, qIsL_l, qIsR_r, qint_i, qil_i, qil_r, qil_l, qf4_0, qf4_1, qf4_2, qf4_3, qf2_0, qf2_1, qcs_n, qcs_i, qcs_r, qcs_l, qst_n, qst_c, qJ_0, qJ_st, qJ_go, qfl_I, qfl_Z, qfl_L, qfl_R, qrI_i, qrL_l, qrV_v, qRcv_0, qRcv_s, eq_self, true_and, and_true, true_or, or_true, false_and, and_false, false_or, or_false, ite_true, if_true, if_false, Bool.true_or, Bool.false_or, Bool.or_false, beq_self_eq_true, Bool.false_eq_true, bX8_cut_0, bX8_cut_28, bX8_cut_33, bX8_cut_38, bX8_cut_42, kX8_cut_0, kX8_cut_28, kX8_cut_33, kX8_cut_38, kX8_cut_42]
theorem zhas_1 {T : zT} (hT : zTW T) {t p n : Nat} (ht : t < 4) (hn : T.2.1 t = some n) (hp : p < n) : (zlaid T (nI t) && zrg (nI p) (zsz T (nI t).toInt.toNat)) = true := by
  have := (hT t ht).2 n hn
  unfold zlaid zsz
  rw [nI_tn (by omega), zrg_k ht (by decide), hn]
  show (true && zrg (nI p) n) = true
  rw [zrg_k hp (by omega)]
  rfl
set_option maxRecDepth 20000 in
theorem x_put {σ : qSg} {T : zT} (h : zXT σ T) (hT : zTW T) {t p n : Nat} (ht : t < 4) (hn : T.2.1 t = some n) (hp : p < n) (v : Int64) : qCV 4 115 [qr 46, qi (nI t), qi (nI p), ql v] σ (fun σ' => zXT σ' (zTput T t p v) ∧ zG (fun _ _ => False) (fun a _ => a = 49) σ σ') := by
  have hn60 := (hT t ht).2 n hn
  refine qCV.of [some (qr 46), some (qi (nI t)), some (qi (nI p)), some (ql v), none] ok_115 (Nat.le_of_ble_eq_true rfl) rfl ?_
  refine qV.go 30 [9999] ok_115 ?_
  simp only [qW_nop, qW_bipush, qW_iloadn, qW_lloadn, qW_aloadn, qW_iadd, qW_imul, qW_ifeq, qW_getf, qW_iald, qW_last, qW_vret, qW_cs2_1, qW_cv3_0, Nat.reduceAdd, Nat.reduceMul, Nat.reduceBEq, Nat.reduceEqDiff, Nat.reduceLT, Nat.reduceLeDiff, Nat.zero_le, nI_add, nI_mul, nI_cl, qin_eq, qofI, qlg_0, qlg_s, qls_i0, qls_r0, qls_l0, qls_1, qls_2, qkl_i, qkl_r, qkl_l, qkl_n, qIsI_i, qIsL_l, qIsR_r, qint_i, qil_i, qil_r, qil_l, qf4_0, qf4_1, qf4_2, qf4_3, qf2_0, qf2_1, qcs_n, qcs_i, qcs_r, qcs_l, qst_n, qst_c, qJ_0, qJ_st, qJ_go, qfl_I, qfl_Z, qfl_L, qfl_R, qrI_i, qrL_l, qrV_v, qRcv_0, qRcv_s, eq_self, true_and, and_true, true_or, or_true, false_and, and_false, false_or, or_false, ite_true, if_true, if_false, Bool.true_or, Bool.false_or, Bool.or_false, beq_self_eq_true, Bool.false_eq_true, bX8_put_0, bX8_put_30, kX8_put_0, kX8_put_30, qK_46, qR_46_0, qK_47, qR_46_1, qK_48, qR_46_2, qK_49]
  refine qBI.fn (x_has h hT _ _) (by decide) ?_
  rw [zhas_1 hT ht hn hp]
  simp (disch := omega) only [nI_leI, nI_ltI, nI_eq, nI_cl, qin_eq, nI_add, nI_mul, qb_z, qb_t, qb_f, nI_ne0', Nat.reduceAdd, Bool.false_eq_true, if_false, if_true, true_and, and_true, Nat.reduceEqDiff, not_true_eq_false, not_false_eq_true, false_implies, true_implies, ite_true, ite_false]
  rw [((h t ht).2 n hn).1]
  refine qBL.fn (x_cut σ v (hT t ht).1) (by decide) ?_
  refine ⟨fun a ha => ⟨fun e => (h a ha).1 e, fun m hm => ?_⟩, zG.wl rfl⟩
  obtain ⟨h1, h2, h3⟩ := (h a ha).2 m hm
  have b1 := (hT a ha).2 m hm
  refine ⟨h1, h2, fun i hi => ?_⟩
  rw [qwl_2]
  simp only [zTput]
  by_cases e : a = t ∧ i = p
  · obtain ⟨rfl, rfl⟩ := e
    rw [if_pos ⟨trivial, by omega⟩, if_pos ⟨rfl, rfl⟩]
  · rw [if_neg (by omega), if_neg e]
    exact h3 i hi
set_option maxRecDepth 20000 in
theorem x_get {σ : qSg} {T : zT} (h : zXT σ T) (hT : zTW T) {t p n : Nat} (ht : t < 4) (hn : T.2.1 t = some n) (hp : p < n) : qFL 4 116 [qr 46, qi (nI t), qi (nI p)] σ (T.2.2 t p) := by
  have hn60 := (hT t ht).2 n hn
  refine qCL.of [some (qr 46), some (qi (nI t)), some (qi (nI p))] ok_116 (Nat.le_of_ble_eq_true rfl) rfl ?_
  refine qV.go 30 [9999] ok_116 ?_
  simp only [qW_nop, qW_bipush, qW_ldc2m, qW_iloadn, qW_aloadn, qW_iadd, qW_imul, qW_ifeq, qW_goto, qW_getf, qW_lald, qW_lret, qW_cv3_0, Nat.reduceAdd, Nat.reduceMul, Nat.reduceBEq, Nat.reduceEqDiff, Nat.reduceLT, Nat.reduceLeDiff, Nat.zero_le, nI_add, nI_mul, nI_cl, qin_eq, qofI, qlg_0, qlg_s, qls_i0, qls_r0, qls_l0, qls_1, qls_2, qkl_i, qkl_r, qkl_l, qkl_n, qIsI_i, qIsL_l, qIsR_r, qint_i, qil_i, qil_r, qil_l, qf4_0, qf4_1, qf4_2, qf4_3, qf2_0, qf2_1, qcs_n, qcs_i, qcs_r, qcs_l, qst_n, qst_c, qJ_0, qJ_st, qJ_go, qfl_I, qfl_Z, qfl_L, qfl_R, qrI_i, qrL_l, qrV_v, qRcv_0, qRcv_s, eq_self, true_and, and_true, true_or, or_true, false_and, and_false, false_or, or_false, ite_true, if_true, if_false, Bool.true_or, Bool.false_or, Bool.or_false, beq_self_eq_true, Bool.false_eq_true, bX8_get_0, bX8_get_23, bX8_get_26, kX8_get_0, kX8_get_23, kX8_get_26, qK_46, qR_46_0, qK_47, qR_46_1, qK_48, qR_46_2, qK_49]
  refine qBI.fn (x_has h hT _ _) (by decide) ?_
  rw [zhas_1 hT ht hn hp]
  simp (disch := omega) only [nI_leI, nI_ltI, nI_eq, nI_cl, qin_eq, nI_add, nI_mul, qb_z, qb_t, qb_f, nI_ne0', Nat.reduceAdd, Bool.false_eq_true, if_false, if_true, true_and, and_true, Nat.reduceEqDiff, not_true_eq_false, not_false_eq_true, false_implies, true_implies, ite_true, ite_false]
  rw [show t * 60 + p = 60 * t + p by omega]
  exact ((h t ht).2 n hn).2.2 p hp
set_option maxRecDepth 20000 in
theorem x_lay {σ : qSg} {T : zT} (h : zXT σ T) (hT : zTW T) {t s n : Nat} (ht : t < 4) (hs : s ≤ 3) (hn : n ≤ 60) : qCV 2 114 [qr 46, qi (nI t), qi (nI s), qi (nI n)] σ (fun σ' => zXT σ' (zTlay T t s n) ∧ zG (fun a _ => a = 47 ∨ a = 48) (fun a _ => a = 49) σ σ') := by
  refine qCV.of [some (qr 46), some (qi (nI t)), some (qi (nI s)), some (qi (nI n)), none] ok_114 (Nat.le_of_ble_eq_true rfl) rfl ?_
  refine qV.go 30 [36] ok_114 ?_
  simp only [qW_nop, qW_iconst, qW_bipush, qW_lconst, qW_iloadn, qW_iload, qW_aloadn, qW_istore, qW_iinc, qW_iadd, qW_imul, qW_ifeq, qW_iflt, qW_icge, qW_icle, qW_goto, qW_getf, qW_iast, qW_last, qW_vret, qW_cv2_0, Nat.reduceAdd, Nat.reduceMul, Nat.reduceBEq, Nat.reduceEqDiff, Nat.reduceLT, Nat.reduceLeDiff, Nat.zero_le, nI_add, nI_mul, nI_cl, qin_eq, qofI, qlg_0, qlg_s, qls_i0, qls_r0, qls_l0, qls_1, qls_2, qkl_i, qkl_r, qkl_l, qkl_n, qIsI_i, qIsL_l, qIsR_r, qint_i, qil_i, qil_r, qil_l, qf4_0, qf4_1, qf4_2, qf4_3, qf2_0, qf2_1, qcs_n, qcs_i, qcs_r, qcs_l, qst_n, qst_c, qJ_0, qJ_st, qJ_go, qfl_I, qfl_Z, qfl_L, qfl_R, qrI_i, qrL_l, qrV_v, qRcv_0, qRcv_s, eq_self, true_and, and_true, true_or, or_true, false_and, and_false, false_or, or_false, ite_true, if_true, if_false, Bool.true_or, Bool.false_or, Bool.or_false, beq_self_eq_true, Bool.false_eq_true, bX8_lay_0, bX8_lay_18, bX8_lay_19, bX8_lay_36, bX8_lay_61, kX8_lay_0, kX8_lay_18, kX8_lay_19, kX8_lay_36, kX8_lay_61, qK_46, qR_46_0, qK_47, qR_46_1, qK_48, qR_46_2, qK_49]
  refine qBI.fn (x_known σ _) (by decide) ?_
  rw [zrg_k ht (by decide)]
  simp (disch := omega) only [nI_leI, nI_ltI, nI_eq, nI_cl, qin_eq, nI_add, nI_mul, qb_z, qb_t, qb_f, nI_ne0', Nat.reduceAdd, Bool.false_eq_true, if_false, if_true, true_and, and_true, Nat.reduceEqDiff, not_true_eq_false, not_false_eq_true, false_implies, true_implies, ite_true, ite_false]
  have f0 : zG (fun a _ => a = 47 ∨ a = 48) (fun a _ => a = 49) σ (qwi (qwi σ 47 t (nI s)) 48 t (nI n)) := (zG.wi (Or.inl rfl)).tr (zG.wi (Or.inr rfl))
  refine ⟨fun g => absurd g (nI_pos (by omega)), fun _ => ⟨fun _ => ?_, fun g => absurd hn g⟩⟩
  refine qdown (n := n) (P := fun j => ∀ σ1 : qSg, σ1.1 = (qwi (qwi σ 47 t (nI s)) 48 t (nI n)).1 → zG (fun a _ => a = 47 ∨ a = 48) (fun a _ => a = 49) σ σ1 → (∀ q, ¬ (60 * t ≤ q ∧ q < 60 * t + j) → σ1.2 49 q = σ.2 49 q) → (∀ i, i < j → σ1.2 49 (60 * t + i) = lN 0) → qV 114 2 (.inr (.inr fun σ' => zXT σ' (zTlay T t s n) ∧ zG (fun a _ => a = 47 ∨ a = 48) (fun a _ => a = 49) σ σ')) 36 [some (qr 46), some (qi (nI t)), some (qi (nI s)), some (qi (nI n)), some (qi (nI j))] [] σ1) (fun j hj ih => ?_) 0 (Nat.zero_le _) _ rfl f0 (fun _ _ => rfl) (fun i hi => absurd hi (by omega))
  intro σ1 g1 g2 g3 g4
  refine qV.go 30 [36] ok_114 ?_
  simp only [qW_nop, qW_iconst, qW_bipush, qW_lconst, qW_iloadn, qW_iload, qW_aloadn, qW_istore, qW_iinc, qW_iadd, qW_imul, qW_ifeq, qW_iflt, qW_icge, qW_icle, qW_goto, qW_getf, qW_iast, qW_last, qW_vret, qW_cv2_0, Nat.reduceAdd, Nat.reduceMul, Nat.reduceBEq, Nat.reduceEqDiff, Nat.reduceLT, Nat.reduceLeDiff, Nat.zero_le, nI_add, nI_mul, nI_cl, qin_eq, qofI, qlg_0, qlg_s, qls_i0, qls_r0, qls_l0, qls_1, qls_2, qkl_i, qkl_r, qkl_l, qkl_n, qIsI_i, qIsL_l, qIsR_r, qint_i, qil_i, qil_r, qil_l, qf4_0, qf4_1, qf4_2, qf4_3, qf2_0, qf2_1, qcs_n, qcs_i, qcs_r, qcs_l, qst_n, qst_c, qJ_0, qJ_st, qJ_go, qfl_I, qfl_Z, qfl_L, qfl_R, qrI_i, qrL_l, qrV_v, qRcv_0, qRcv_s, eq_self, true_and, and_true, true_or, or_true, false_and, and_false, false_or, or_false, ite_true, if_true, if_false, Bool.true_or, Bool.false_or, Bool.or_false, beq_self_eq_true, Bool.false_eq_true, bX8_lay_0, bX8_lay_18, bX8_lay_19, bX8_lay_36, bX8_lay_61, kX8_lay_0, kX8_lay_18, kX8_lay_19, kX8_lay_36, kX8_lay_61, qK_46, qR_46_0, qK_47, qR_46_1, qK_48, qR_46_2, qK_49]
  simp (disch := omega) only [nI_leI, nI_ltI, nI_eq, nI_cl, qin_eq, nI_add, nI_mul, qb_z, qb_t, qb_f, nI_ne0', Nat.reduceAdd, Bool.false_eq_true, if_false, if_true, true_and, and_true, Nat.reduceEqDiff, not_true_eq_false, not_false_eq_true, false_implies, true_implies, ite_true, ite_false]
  refine ⟨fun h5 => ?_, fun h5 => ?_⟩
  · refine ⟨fun x hx => ?_, g2⟩
    obtain ⟨t1, t2⟩ := h x hx
    simp only [zTlay]
    by_cases e : x = t
    · subst e
      refine ⟨fun e => absurd e (by rw [if_pos rfl]; exact Option.some_ne_none _), fun m hm => ?_⟩
      rw [if_pos rfl] at hm
      rw [if_pos rfl]
      cases hm
      refine ⟨by rw [g1, qwi_1, if_neg (by omega), qwi_1, if_pos ⟨rfl, rfl⟩], by rw [g1, qwi_1, if_pos ⟨rfl, rfl⟩], fun i hi => ?_⟩
      rw [if_pos rfl]
      exact g4 i (by omega)
    · rw [if_neg e, if_neg e]
      have o1 : σ1.1 47 x = σ.1 47 x := by rw [g1, qwi_1, if_neg (by omega), qwi_1, if_neg (by omega)]
      have o2 : σ1.1 48 x = σ.1 48 x := by rw [g1, qwi_1, if_neg (by omega), qwi_1, if_neg (by omega)]
      refine ⟨fun e => by rw [o1]; exact t1 e, fun m hm => ?_⟩
      obtain ⟨u1, u2, u3⟩ := t2 m hm
      have bm := (hT x hx).2 m hm
      refine ⟨by rw [o1]; exact u1, by rw [o2]; exact u2, fun i hi => ?_⟩
      rw [if_neg e, g3 _ (by omega)]
      exact u3 i hi
  · have e2 : t * 60 + j = 60 * t + j := by omega
    refine ⟨qin_n (by omega) (by decide), ih (by omega) _ ?_ (g2.tr (zG.wl rfl)) (fun q hq => ?_) (fun i hi => ?_)⟩
    · rw [qwl_1]; exact g1
    · rw [qwl_2, if_neg (by omega)]
      exact g3 q (by omega)
    · rw [qwl_2]
      by_cases e : i = j
      · subst e
        rw [if_pos ⟨rfl, by omega⟩]
      · rw [if_neg (by omega)]
        exact g4 i (by omega)
set_option maxRecDepth 20000 in
theorem x_move {σ : qSg} {T : zT} (h : zXT σ T) (hT : zTW T) {f t p a m u v : Nat} (hf : f < 4) (ht : t < 4) (hu : T.2.1 f = some u) (hv : T.2.1 t = some v) (h1 : p + m ≤ u) (h2 : a + m ≤ v) : qCV 4 117 [qr 46, qi (nI f), qi (nI p), qi (nI t), qi (nI a), qi (nI m)] σ (fun σ' => zXT σ' (zTpour T f p t a m) ∧ zG (fun _ _ => False) (fun a _ => a = 49) σ σ') := by
  have hu60 := (hT f hf).2 u hu
  have hv60 := (hT t ht).2 v hv
  have ok : ∀ x y z, x < 4 → T.2.1 x = some z → y + m ≤ z → z ≤ 60 → zhold T (nI x) (nI y) (nI m) = true := fun x y z hx hz hy hz2 => by
    unfold zhold zlaid zsz
    rw [nI_tn (by omega), zrg_k hx (by decide), hz, nI_t (by omega), nI_t (by omega)]
    simp
    omega
  refine qCV.of [some (qr 46), some (qi (nI f)), some (qi (nI p)), some (qi (nI t)), some (qi (nI a)), some (qi (nI m))] ok_117 (Nat.le_of_ble_eq_true rfl) rfl ?_
  refine qV.go 30 [9999] ok_117 ?_
  simp only [qW_nop, qW_bipush, qW_iloadn, qW_iload, qW_aloadn, qW_iadd, qW_imul, qW_ifeq, qW_getf, qW_vret, qW_cv4_0, qW_cpyI, qW_cpyL, qrg_8, qrg_10, qrg_60, Nat.reduceAdd, Nat.reduceMul, Nat.reduceBEq, Nat.reduceEqDiff, Nat.reduceLT, Nat.reduceLeDiff, Nat.zero_le, nI_add, nI_mul, nI_cl, qin_eq, qofI, qlg_0, qlg_s, qls_i0, qls_r0, qls_l0, qls_1, qls_2, qkl_i, qkl_r, qkl_l, qkl_n, qIsI_i, qIsL_l, qIsR_r, qint_i, qil_i, qil_r, qil_l, qf4_0, qf4_1, qf4_2, qf4_3, qf2_0, qf2_1, qcs_n, qcs_i, qcs_r, qcs_l, qst_n, qst_c, qJ_0, qJ_st, qJ_go, qfl_I, qfl_Z, qfl_L, qfl_R, qrI_i, qrL_l, qrV_v, qRcv_0, qRcv_s, eq_self, true_and, and_true, true_or, or_true, false_and, and_false, false_or, or_false, ite_true, if_true, if_false, Bool.true_or, Bool.false_or, Bool.or_false, beq_self_eq_true, Bool.false_eq_true, bX8_move_0, bX8_move_49, kX8_move_0, kX8_move_49, qK_46, qR_46_0, qK_47, qR_46_1, qK_48, qR_46_2, qK_49]
  refine qBI.fn (x_holds h hT _ _ _) (by decide) ?_
  rw [ok f p u hf hu h1 hu60]
  simp (disch := omega) only [nI_leI, nI_ltI, nI_eq, nI_cl, qin_eq, nI_add, nI_mul, qb_z, qb_t, qb_f, nI_ne0', Nat.reduceAdd, Bool.false_eq_true, if_false, if_true, true_and, and_true, Nat.reduceEqDiff, not_true_eq_false, not_false_eq_true, false_implies, true_implies, ite_true, ite_false]
  refine qBI.fn (x_holds h hT _ _ _) (by decide) ?_
  rw [ok t a v ht hv h2 hv60]
  simp (disch := omega) only [nI_leI, nI_ltI, nI_eq, nI_cl, qin_eq, nI_add, nI_mul, qb_z, qb_t, qb_f, nI_ne0', Nat.reduceAdd, Bool.false_eq_true, if_false, if_true, true_and, and_true, Nat.reduceEqDiff, not_true_eq_false, not_false_eq_true, false_implies, true_implies, ite_true, ite_false]
  have q1 : qrg (nI (f * 60 + p)) (nI m) 240 := qrg_n (by omega) (by decide)
  have q2 : qrg (nI (t * 60 + a)) (nI m) 240 := qrg_n (by omega) (by decide)
  rw [qW_cpyL (ha := rfl) (hb := rfl)]
  simp only [qW_nop, qW_bipush, qW_iloadn, qW_iload, qW_aloadn, qW_iadd, qW_imul, qW_ifeq, qW_getf, qW_vret, qW_cv4_0, qW_cpyI, qW_cpyL, qrg_8, qrg_10, qrg_60, Nat.reduceAdd, Nat.reduceMul, Nat.reduceBEq, Nat.reduceEqDiff, Nat.reduceLT, Nat.reduceLeDiff, Nat.zero_le, nI_add, nI_mul, nI_cl, qin_eq, qofI, qlg_0, qlg_s, qls_i0, qls_r0, qls_l0, qls_1, qls_2, qkl_i, qkl_r, qkl_l, qkl_n, qIsI_i, qIsL_l, qIsR_r, qint_i, qil_i, qil_r, qil_l, qf4_0, qf4_1, qf4_2, qf4_3, qf2_0, qf2_1, qcs_n, qcs_i, qcs_r, qcs_l, qst_n, qst_c, qJ_0, qJ_st, qJ_go, qfl_I, qfl_Z, qfl_L, qfl_R, qrI_i, qrL_l, qrV_v, qRcv_0, qRcv_s, eq_self, true_and, and_true, true_or, or_true, false_and, and_false, false_or, or_false, ite_true, if_true, if_false, Bool.true_or, Bool.false_or, Bool.or_false, beq_self_eq_true, Bool.false_eq_true, bX8_move_0, bX8_move_49, kX8_move_0, kX8_move_49, qK_46, qR_46_0, qK_47, qR_46_1, qK_48, qR_46_2, qK_49]
  refine ⟨q1, q2, ?_⟩
  rw [nI_cl (show f * 60 + p < 2147483648 by omega), nI_cl (show t * 60 + a < 2147483648 by omega), nI_cl (show m < 2147483648 by omega)]
  refine ⟨fun x hx => ⟨fun e => (h x hx).1 e, fun z hz => ?_⟩, fun _ _ _ => rfl, fun x j hx => by rw [qcl_2, if_neg hx]⟩
  obtain ⟨u1, u2, u3⟩ := (h x hx).2 z hz
  have bz := (hT x hx).2 z hz
  refine ⟨u1, u2, fun i hi => ?_⟩
  rw [qcl_2, if_pos rfl]
  simp only [zTpour]
  by_cases e : x = t ∧ a ≤ i ∧ i < a + m
  · obtain ⟨rfl, e1, e2⟩ := e
    rw [if_pos ⟨by omega, by omega⟩, if_pos ⟨rfl, e1, e2⟩, show f * 60 + p + (60 * x + i - (x * 60 + a)) = 60 * f + (p + (i - a)) by omega]
    exact ((h f hf).2 u hu).2.2 _ (by omega)
  · rw [if_neg (by omega), if_neg e]
    exact u3 i hi
