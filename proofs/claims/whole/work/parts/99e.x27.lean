/-! the class: what must stand at a place of the text -/
theorem qCV.mono {d k : Nat} {a : List qPV} {σ : qSg} {P P' : qSg → Prop} (h : qCV d k a σ P) (hm : ∀ σ', P σ' → P' σ') : qCV d k a σ P' := ⟨h.1, fun l E => MetFree.mono (h.2 l E) (fun _ _ x => x) (fun _ _ _ _ _ _ => trivial) (fun a s o t _ hQ => by
  obtain ⟨⟨⟨σ', h1, h2, h3⟩, h4⟩, h5⟩ := hQ
  exact ⟨⟨⟨σ', h1, hm σ' h2, h3⟩, h4⟩, h5⟩)⟩
def zXd (σ : qSg) (B : Nat → Nat) (n p : Nat) : Prop := zXt σ B n p ∧ σ.1 50 11 = nI 0 ∧ σ.1 50 12 = iI (-1)
def zXe (σ : qSg) (e : Nat × Nat) : Prop := σ.1 50 11 = nI e.1 ∧ σ.1 50 12 = nI e.2
def zXo {α : Type} (R : zR α) (r : Int32) (σ' : qSg) (G : α → Prop) : Prop :=
  match R with
  | .inl e => r = nI 0 ∧ zXe σ' e
  | .inr a => r = nI 1 ∧ G a
theorem zXo_l {α : Type} {R : zR α} {e : Nat × Nat} {r : Int32} {σ' : qSg} {G : α → Prop} (h : R = .inl e) (h1 : r = nI 0) (h2 : zXe σ' e) : zXo R r σ' G := by
  subst h
  exact ⟨h1, h2⟩
theorem zXo_r {α : Type} {R : zR α} {a : α} {r : Int32} {σ' : qSg} {G : α → Prop} (h : R = .inr a) (h1 : r = nI 1) (h2 : G a) : zXo R r σ' G := by
  subst h
  exact ⟨h1, h2⟩
theorem zXo_c {α : Type} {R : zR α} {r : Int32} {σ' : qSg} {G : α → Prop} (h : zXo R r σ' G) : (∃ e, R = .inl e ∧ r = nI 0 ∧ zXe σ' e) ∨ ∃ a, R = .inr a ∧ r = nI 1 ∧ G a := by
  unfold zXo at h
  split at h
  · exact Or.inl ⟨_, rfl, h⟩
  · exact Or.inr ⟨_, rfl, h⟩
theorem zXe.f {σ σ' : qSg} {e : Nat × Nat} (h : zXe σ e) (h1 : σ'.1 50 11 = σ.1 50 11) (h2 : σ'.1 50 12 = σ.1 50 12) : zXe σ' e := ⟨h1.trans h.1, h2.trans h.2⟩
theorem zXt.of {σ σ' : qSg} {B : Nat → Nat} {n p : Nat} (h : zXt σ B n p) (e : ∀ j, 2 ≤ j → j ≤ 9 → σ'.1 50 j = σ.1 50 j) (e2 : ∀ j, σ'.1 51 j = σ.1 51 j) (e3 : ∀ j, σ'.2 52 j = σ.2 52 j) (e4 : σ'.2 50 6 = σ.2 50 6) : zXt σ' B n p := by
  obtain ⟨⟨r1, r2, r3⟩, h3, h5, h4, h7, h6, h8, h9⟩ := h
  refine ⟨⟨?_, fun k hk => ?_, fun i hi => ?_⟩, ?_, ?_, ?_, ?_, fun hh => ?_, fun hh => ?_, fun hh => ?_⟩
  · rw [e 2 (by decide) (by decide)]; exact r1
  · rw [e2]; exact r2 k hk
  · rw [e3]; exact r3 i hi
  · rw [e 3 (by decide) (by decide)]; exact h3
  · rw [e 5 (by decide) (by decide)]; exact h5
  · rw [e 4 (by decide) (by decide)]; exact h4
  · rw [e 7 (by decide) (by decide)]; exact h7
  · rw [e4]; exact h6 hh
  · rw [e 8 (by decide) (by decide)]; exact h8 hh
  · rw [e 9 (by decide) (by decide)]; exact h9 hh
/-- what lies outside changes -/
theorem zXd.o {σ σ' : qSg} {B : Nat → Nat} {n p : Nat} {P R : Nat → Nat → Prop} (h : zXd σ B n p) (f : zG P R σ σ') (h1 : ∀ j, 2 ≤ j → j ≤ 12 → j ≠ 10 → ¬ P 50 j) (h2 : ∀ j, ¬ P 51 j) (h3 : ∀ j, ¬ R 52 j) (h4 : ¬ R 50 6) : zXd σ' B n p :=
  ⟨h.1.of (fun j a b => f.1 _ _ (h1 j a (by omega) (by omega))) (fun j => f.1 _ _ (h2 j)) (fun j => f.2 _ _ (h3 j)) (f.2 _ _ h4), by rw [f.1 _ _ (h1 11 (by decide) (by decide) (by decide))]; exact h.2.1, by rw [f.1 _ _ (h1 12 (by decide) (by decide) (by decide))]; exact h.2.2⟩
theorem x_next {σ : qSg} {B : Nat → Nat} {n p : Nat} (hB : zBW B n) (hp : p ≤ n) (h : zXd σ B n p) : qCV 3 93 [qr 50] σ (fun σ' => zXd σ' B n (tkE B p) ∧ zG zPxs zRxt σ σ') := by
  have := x_step0 hB h.1.1 (tkE_spec hB hp).2.2.1 h.1.2.1
  refine qCV.mono this (fun σ' g => ⟨⟨g.1, ?_, ?_⟩, g.2⟩)
  · rw [g.2.1 _ _ (by unfold zPxs; omega)]; exact h.2.1
  · rw [g.2.1 _ _ (by unfold zPxs; omega)]; exact h.2.2
set_option maxRecDepth 20000 in
theorem x_atEnd {σ : qSg} {B : Nat → Nat} {n p : Nat} (h : zXd σ B n p) : qFI 1 99 [qr 50] σ (qb (decide (tkK B p = 0))) := by
  have hk5 := tkK_lt B p
  have hz := zkd_lt hk5
  refine qCI.of [some (qr 50)] ok_99 (Nat.le_of_ble_eq_true rfl) rfl ?_
  refine qV.go 30 [9999] ok_99 ?_
  simp only [qW_nop, qW_iconst, qW_aloadn, qW_ifne, qW_goto, qW_getf, qW_iret1, Nat.reduceAdd, Nat.reduceMul, Nat.reduceBEq, Nat.reduceEqDiff, Nat.reduceLT, Nat.reduceLeDiff, Nat.zero_le, nI_add, nI_mul, nI_cl, qin_eq, qofI, qlg_0, qlg_s, qls_i0, qls_r0, qls_l0, qls_1, qls_2, qkl_i, qkl_r, qkl_l, qkl_n, qIsI_i, qIsL_l, qIsR_r, qint_i, qil_i, qil_r, qil_l, qf4_0, qf4_1, qf4_2, qf4_3, qf2_0, qf2_1, qcs_n, qcs_i, qcs_r, qcs_l, qst_n, qst_c, qJ_0, qJ_st, qJ_go, qfl_I, qfl_Z, qfl_L, qfl_R, qrI_i, qrL_l, qrV_v, qRcv_0, qRcv_s, eq_self, true_and, and_true, true_or, or_true, false_and, and_false, false_or, or_false, ite_true, if_true, if_false, Bool.true_or, Bool.false_or, Bool.or_false, beq_self_eq_true, Bool.false_eq_true, bX7_atEnd_0, bX7_atEnd_11, bX7_atEnd_12, kX7_atEnd_0, kX7_atEnd_11, kX7_atEnd_12, qK_50, qR_50_0, qK_51, qR_50_13, qK_52]
  rw [h.1.2.2.2.1, nI_ne0' (by omega), show (zkd (tkK B p) = 0) = (tkK B p = 0) from zkd_eq hk5 (show 0 < 5 by decide)]
  exact ⟨fun g => by rw [decide_eq_false g]; rfl, fun g => by rw [decide_eq_true g]; rfl⟩
set_option maxRecDepth 20000 in
theorem x_fail {σ : qSg} {B : Nat → Nat} {n p : Nat} (h : zXd σ B n p) (f : Nat) : qCI 1 100 [qr 50, qi (nI f)] σ (fun r σ' => r = nI 0 ∧ zXe σ' (f, tkS B p) ∧ zG zPxt zRxt σ σ') := by
  refine qCI.of [some (qr 50), some (qi (nI f))] ok_100 (Nat.le_of_ble_eq_true rfl) rfl ?_
  refine qV.go 30 [9999] ok_100 ?_
  simp only [qW_nop, qW_iconst, qW_iloadn, qW_aloadn, qW_getf, qW_iret1, qW_putf0, Nat.reduceAdd, Nat.reduceMul, Nat.reduceBEq, Nat.reduceEqDiff, Nat.reduceLT, Nat.reduceLeDiff, Nat.zero_le, nI_add, nI_mul, nI_cl, qin_eq, qofI, qlg_0, qlg_s, qls_i0, qls_r0, qls_l0, qls_1, qls_2, qkl_i, qkl_r, qkl_l, qkl_n, qIsI_i, qIsL_l, qIsR_r, qint_i, qil_i, qil_r, qil_l, qf4_0, qf4_1, qf4_2, qf4_3, qf2_0, qf2_1, qcs_n, qcs_i, qcs_r, qcs_l, qst_n, qst_c, qJ_0, qJ_st, qJ_go, qfl_I, qfl_Z, qfl_L, qfl_R, qrI_i, qrL_l, qrV_v, qRcv_0, qRcv_s, eq_self, true_and, and_true, true_or, or_true, false_and, and_false, false_or, or_false, ite_true, if_true, if_false, Bool.true_or, Bool.false_or, Bool.or_false, beq_self_eq_true, Bool.false_eq_true, bX7_fail_0, kX7_fail_0, qK_50, qR_50_0, qK_51, qR_50_13, qK_52]
  refine ⟨⟨?_, ?_⟩, (zG.wi ⟨rfl, by decide, by decide⟩).tr (zG.wi ⟨rfl, by decide, by decide⟩)⟩
  · rw [qwi_1, if_neg (by decide), qwi_1, if_pos ⟨rfl, rfl⟩]
  · rw [qwi_1, if_pos ⟨rfl, rfl⟩, qwi_1, if_neg (by decide)]
    exact h.1.2.2.1
theorem zno_ne {B : Nat → Nat} {p f : Nat} (h : tkK B p ≠ 1) : zno B p f = (f, tkS B p) := by unfold zno; rw [if_neg h]
set_option maxRecDepth 20000 in
theorem x_cannot {σ : qSg} {B : Nat → Nat} {n p : Nat} (h : zXd σ B n p) : qCI 2 101 [qr 50] σ (fun r σ' => r = nI 0 ∧ zXe σ' (zno B p 2) ∧ zG zPxt zRxt σ σ') := by
  have hk5 := tkK_lt B p
  have hz := zkd_lt hk5
  refine qCI.of [some (qr 50)] ok_101 (Nat.le_of_ble_eq_true rfl) rfl ?_
  refine qV.go 30 [9999] ok_101 ?_
  simp only [qW_nop, qW_iconst, qW_aloadn, qW_icne, qW_goto, qW_getf, qW_cv2_0, qW_iret1, Nat.reduceAdd, Nat.reduceMul, Nat.reduceBEq, Nat.reduceEqDiff, Nat.reduceLT, Nat.reduceLeDiff, Nat.zero_le, nI_add, nI_mul, nI_cl, qin_eq, qofI, qlg_0, qlg_s, qls_i0, qls_r0, qls_l0, qls_1, qls_2, qkl_i, qkl_r, qkl_l, qkl_n, qIsI_i, qIsL_l, qIsR_r, qint_i, qil_i, qil_r, qil_l, qf4_0, qf4_1, qf4_2, qf4_3, qf2_0, qf2_1, qcs_n, qcs_i, qcs_r, qcs_l, qst_n, qst_c, qJ_0, qJ_st, qJ_go, qfl_I, qfl_Z, qfl_L, qfl_R, qrI_i, qrL_l, qrV_v, qRcv_0, qRcv_s, eq_self, true_and, and_true, true_or, or_true, false_and, and_false, false_or, or_false, ite_true, if_true, if_false, Bool.true_or, Bool.false_or, Bool.or_false, beq_self_eq_true, Bool.false_eq_true, bX7_cannotStand_0, bX7_cannotStand_13, bX7_cannotStand_14, kX7_cannotStand_0, kX7_cannotStand_13, kX7_cannotStand_14, qK_50, qR_50_0, qK_51, qR_50_13, qK_52]
  rw [h.1.2.2.2.1]
  have e : (nI (zkd (tkK B p)) = nI 4) = (tkK B p = 1) := by
    rw [← zkd_eq hk5 (show 1 < 5 by decide)]
    exact propext (nI_eq (by omega) (by decide))
  rw [e]
  refine ⟨fun g => ?_, fun g => ?_⟩
  · refine qBI.of (x_fail h 2) (by decide) (fun r σ1 g1 => ?_)
    rw [zno_ne g]
    exact ⟨Or.inl g1.1, g1⟩
  · refine qBI.of (x_fail h 1) (by decide) (fun r σ1 g1 => ?_)
    have : zno B p 2 = (1, tkS B p) := by unfold zno; rw [if_pos g]
    rw [this]
    exact ⟨Or.inl g1.1, g1⟩
theorem tkY_22 {B : Nat → Nat} {p : Nat} (h : tkK B p ≠ 2) : tkY B p = 22 := by unfold tkY; rw [if_neg h]
set_option maxRecDepth 20000 in
theorem x_isName {σ : qSg} {B : Nat → Nat} {n p : Nat} (hB : zBW B n) (hp : p ≤ n) (h : zXd σ B n p) : qFI 1 102 [qr 50] σ (qb (zisN B p)) := by
  have hk5 := tkK_lt B p
  have hz := zkd_lt hk5
  have hy := tkY_le B p
  refine qCI.of [some (qr 50)] ok_102 (Nat.le_of_ble_eq_true rfl) rfl ?_
  refine qV.go 30 [9999] ok_102 ?_
  simp only [qW_nop, qW_iconst, qW_iconstm, qW_ldc2m, qW_aloadn, qW_lcmp, qW_ifeq, qW_icne, qW_goto, qW_getf, qW_iret1, Nat.reduceAdd, Nat.reduceMul, Nat.reduceBEq, Nat.reduceEqDiff, Nat.reduceLT, Nat.reduceLeDiff, Nat.zero_le, nI_add, nI_mul, nI_cl, qin_eq, qofI, qlg_0, qlg_s, qls_i0, qls_r0, qls_l0, qls_1, qls_2, qkl_i, qkl_r, qkl_l, qkl_n, qIsI_i, qIsL_l, qIsR_r, qint_i, qil_i, qil_r, qil_l, qf4_0, qf4_1, qf4_2, qf4_3, qf2_0, qf2_1, qcs_n, qcs_i, qcs_r, qcs_l, qst_n, qst_c, qJ_0, qJ_st, qJ_go, qfl_I, qfl_Z, qfl_L, qfl_R, qrI_i, qrL_l, qrV_v, qRcv_0, qRcv_s, eq_self, true_and, and_true, true_or, or_true, false_and, and_false, false_or, or_false, ite_true, if_true, if_false, Bool.true_or, Bool.false_or, Bool.or_false, beq_self_eq_true, Bool.false_eq_true, bX7_isName_0, bX7_isName_31, bX7_isName_32, kX7_isName_0, kX7_isName_31, kX7_isName_32, qK_50, qR_50_0, qK_51, qR_50_13, qK_52]
  rw [h.1.2.2.2.1, h.1.2.2.2.2.1, zkc_no hy]
  have e : (nI (zkd (tkK B p)) = nI 1) = (tkK B p = 2) := by
    rw [← zkd_eq hk5 (show 2 < 5 by decide)]
    exact propext (nI_eq (by omega) (by decide))
  rw [e]
  unfold zisN
  by_cases e1 : tkK B p = 2
  · by_cases e4 : tkY B p = 22
    · refine ⟨fun g => absurd e1 g, fun _ => ⟨fun g => absurd e4 g, fun _ => ?_⟩⟩
      have hsm := tkW_sm hB hp e1
      have e2 : (lg_cmp (σ.2 50 6) (-(lN 1)) = 0) = ¬ (tkE B p - tkS B p ≤ 8) := by
        rw [h.1.2.2.2.2.2.1 e1, qlcmp0]
        unfold zcd
        split
        · next h8 =>
          have : zcg 32 96 (zpre B (tkS B p) (tkE B p - tkS B p)) < 9223372036854775808 := Nat.lt_of_lt_of_le (zcg_lt (by decide) zcg_32 _ _ (zpre_len _ _ _) (zpre_sm hsm.1)) (Nat.le_trans (Nat.pow_le_pow_right (by decide) h8) (Nat.le_of_ble_eq_true rfl : 32 ^ 8 ≤ 9223372036854775808))
          have e3 : (-(lN 1) : Int64).toInt = -1 := by decide
          rw [lN_t' this, e3]
          apply propext
          omega
        · next h8 =>
          apply propext
          exact ⟨fun _ => h8, fun _ => rfl⟩
      rw [e2]
      by_cases e8 : tkE B p - tkS B p ≤ 8 <;> simp [e1, e4, e8, qb]
    · refine ⟨fun g => absurd e1 g, fun _ => ⟨fun _ => ?_, fun g => absurd g e4⟩⟩
      simp [e4, qb]
  · refine ⟨fun _ => ?_, fun g => absurd g e1⟩
    simp [e1, qb]
set_option maxRecDepth 20000 in
theorem x_takeWord {σ : qSg} {B : Nat → Nat} {n p : Nat} (hB : zBW B n) (hp : p ≤ n) (h : zXd σ B n p) {k : Nat} (hk : k < 22) {v : Nat} (hv : v = zkn k) : qCI 4 103 [qr 50, qi (nI v)] σ (fun r σ' => zXo (zpK B k p) r σ' (fun q => zXd σ' B n q) ∧ zG zPxt zRxt σ σ') := by
  subst hv
  refine qCI.of [some (qr 50), some (qi (nI (zkn k)))] ok_103 (Nat.le_of_ble_eq_true rfl) rfl ?_
  refine qV.go 30 [9999] ok_103 ?_
  simp only [qW_nop, qW_iconst, qW_iloadn, qW_aloadn, qW_iceq, qW_getf, qW_cv1_0, qW_cv1_2, qW_iret1, Nat.reduceAdd, Nat.reduceMul, Nat.reduceBEq, Nat.reduceEqDiff, Nat.reduceLT, Nat.reduceLeDiff, Nat.zero_le, nI_add, nI_mul, nI_cl, qin_eq, qofI, qlg_0, qlg_s, qls_i0, qls_r0, qls_l0, qls_1, qls_2, qkl_i, qkl_r, qkl_l, qkl_n, qIsI_i, qIsL_l, qIsR_r, qint_i, qil_i, qil_r, qil_l, qf4_0, qf4_1, qf4_2, qf4_3, qf2_0, qf2_1, qcs_n, qcs_i, qcs_r, qcs_l, qst_n, qst_c, qJ_0, qJ_st, qJ_go, qfl_I, qfl_Z, qfl_L, qfl_R, qrI_i, qrL_l, qrV_v, qRcv_0, qRcv_s, eq_self, true_and, and_true, true_or, or_true, false_and, and_false, false_or, or_false, ite_true, if_true, if_false, Bool.true_or, Bool.false_or, Bool.or_false, beq_self_eq_true, Bool.false_eq_true, bX7_takeWord_0, bX7_takeWord_13, kX7_takeWord_0, kX7_takeWord_13, qK_50, qR_50_0, qK_51, qR_50_13, qK_52]
  rw [h.1.2.2.2.2.1, zkc_eq (tkY_le B p) hk]
  refine ⟨fun g => ?_, fun g => ?_⟩
  · refine qBV.of (x_next hB hp h) (by decide) (fun σ1 g1 => ?_)
    exact ⟨zXo_r (by unfold zpK; rw [if_pos g]) rfl g1.1, zPxs_t g1.2⟩
  · refine qBI.of (x_cannot h) (by decide) (fun r σ1 g1 => ?_)
    obtain ⟨rfl, g1, g2⟩ := g1
    exact ⟨Or.inl rfl, zXo_l (by unfold zpK; rw [if_neg g]) rfl g1, g2⟩
set_option maxRecDepth 20000 in
theorem x_takeNum {σ : qSg} {B : Nat → Nat} {n p : Nat} (hB : zBW B n) (hp : p ≤ n) (h : zXd σ B n p) {lo hi : Nat} (hlo : lo < 100000) (hhi : hi < 100000) : qCI 4 104 [qr 50, qi (nI lo), qi (nI hi)] σ (fun r σ' => zXo (zpN B lo hi p) r σ' (fun v => zXd σ' B n v.2 ∧ σ'.1 50 10 = nI v.1) ∧ zG zPxt zRxt σ σ') := by
  have hk5 := tkK_lt B p
  have hz := zkd_lt hk5
  refine qCI.of [some (qr 50), some (qi (nI lo)), some (qi (nI hi))] ok_104 (Nat.le_of_ble_eq_true rfl) rfl ?_
  refine qV.go 30 [29] ok_104 ?_
  simp only [qW_nop, qW_iconst, qW_iloadn, qW_aloadn, qW_iceq, qW_iclt, qW_icle, qW_getf, qW_cv1_0, qW_cv1_2, qW_cv2_0, qW_iret1, qW_putf0, Nat.reduceAdd, Nat.reduceMul, Nat.reduceBEq, Nat.reduceEqDiff, Nat.reduceLT, Nat.reduceLeDiff, Nat.zero_le, nI_add, nI_mul, nI_cl, qin_eq, qofI, qlg_0, qlg_s, qls_i0, qls_r0, qls_l0, qls_1, qls_2, qkl_i, qkl_r, qkl_l, qkl_n, qIsI_i, qIsL_l, qIsR_r, qint_i, qil_i, qil_r, qil_l, qf4_0, qf4_1, qf4_2, qf4_3, qf2_0, qf2_1, qcs_n, qcs_i, qcs_r, qcs_l, qst_n, qst_c, qJ_0, qJ_st, qJ_go, qfl_I, qfl_Z, qfl_L, qfl_R, qrI_i, qrL_l, qrV_v, qRcv_0, qRcv_s, eq_self, true_and, and_true, true_or, or_true, false_and, and_false, false_or, or_false, ite_true, if_true, if_false, Bool.true_or, Bool.false_or, Bool.or_false, beq_self_eq_true, Bool.false_eq_true, bX7_takeNumber_0, bX7_takeNumber_13, bX7_takeNumber_29, bX7_takeNumber_35, kX7_takeNumber_0, kX7_takeNumber_13, kX7_takeNumber_29, kX7_takeNumber_35, qK_50, qR_50_0, qK_51, qR_50_13, qK_52]
  have e : (nI (zkd (tkK B p)) = nI 2) = (tkK B p = 3) := by
    rw [← zkd_eq hk5 (show 3 < 5 by decide)]
    exact propext (nI_eq (by omega) (by decide))
  rw [h.1.2.2.2.1, e]
  refine ⟨fun g => ?_, fun g => ?_⟩
  · have hv := tkV_lt hB hp g
    rw [h.1.2.2.2.2.2.2.1 g]
    have bad : (tkV B p < lo ∨ hi < tkV B p) → qV 104 4 (.inl fun r σ' => zXo (zpN B lo hi p) r σ' (fun v => zXd σ' B n v.2 ∧ σ'.1 50 10 = nI v.1) ∧ zG zPxt zRxt σ σ') 29 [some (qr 50), some (qi (nI lo)), some (qi (nI hi))] [] σ := by
      intro hb
      refine qV.go 30 [9999] ok_104 ?_
      simp only [qW_nop, qW_iconst, qW_iloadn, qW_aloadn, qW_iceq, qW_iclt, qW_icle, qW_getf, qW_cv1_0, qW_cv1_2, qW_cv2_0, qW_iret1, qW_putf0, Nat.reduceAdd, Nat.reduceMul, Nat.reduceBEq, Nat.reduceEqDiff, Nat.reduceLT, Nat.reduceLeDiff, Nat.zero_le, nI_add, nI_mul, nI_cl, qin_eq, qofI, qlg_0, qlg_s, qls_i0, qls_r0, qls_l0, qls_1, qls_2, qkl_i, qkl_r, qkl_l, qkl_n, qIsI_i, qIsL_l, qIsR_r, qint_i, qil_i, qil_r, qil_l, qf4_0, qf4_1, qf4_2, qf4_3, qf2_0, qf2_1, qcs_n, qcs_i, qcs_r, qcs_l, qst_n, qst_c, qJ_0, qJ_st, qJ_go, qfl_I, qfl_Z, qfl_L, qfl_R, qrI_i, qrL_l, qrV_v, qRcv_0, qRcv_s, eq_self, true_and, and_true, true_or, or_true, false_and, and_false, false_or, or_false, ite_true, if_true, if_false, Bool.true_or, Bool.false_or, Bool.or_false, beq_self_eq_true, Bool.false_eq_true, bX7_takeNumber_0, bX7_takeNumber_13, bX7_takeNumber_29, bX7_takeNumber_35, kX7_takeNumber_0, kX7_takeNumber_13, kX7_takeNumber_29, kX7_takeNumber_35, qK_50, qR_50_0, qK_51, qR_50_13, qK_52]
      refine qBI.of (x_fail h 4) (by decide) (fun r σ1 g1 => ?_)
      obtain ⟨rfl, g1, g2⟩ := g1
      refine ⟨Or.inl rfl, zXo_l (e := zno B p 4) (by unfold zpN; rw [if_neg (by omega), if_pos hb]) rfl ?_, g2⟩
      rw [zno_ne (by omega)]
      exact g1
    simp (disch := omega) only [nI_leI, nI_ltI, nI_eq, nI_cl, qin_eq, nI_add, nI_mul, qb_z, qb_t, qb_f, nI_ne0', Nat.reduceAdd, Bool.false_eq_true, if_false, if_true, true_and, and_true, Nat.reduceEqDiff, not_true_eq_false, not_false_eq_true, false_implies, true_implies, ite_true, ite_false]
    refine ⟨fun e1 => bad (Or.inl e1), fun e1 => ⟨fun e2 => ?_, fun e2 => bad (Or.inr (by omega))⟩⟩
    have h' : zXd (qwi σ 50 10 (nI (tkV B p))) B n p := h.o (P := fun a j => a = 50 ∧ j = 10) (R := fun _ _ => False) (zG.wi ⟨rfl, rfl⟩) (fun j _ _ hh => by omega) (fun j => by omega) (fun j hh => hh) (fun hh => hh)
    refine qBV.of (x_next hB hp h') (by decide) (fun σ1 g1 => ?_)
    refine ⟨zXo_r (a := (tkV B p, tkE B p)) (by unfold zpN; rw [if_neg (by omega), if_neg (by omega)]) rfl ⟨g1.1, ?_⟩, (zG.wi ⟨rfl, by decide, by decide⟩).tr (zPxs_t g1.2)⟩
    rw [g1.2.1 _ _ (by unfold zPxs; omega), qwi_1, if_pos ⟨rfl, rfl⟩]
  · refine qBI.of (x_cannot h) (by decide) (fun r σ1 g1 => ?_)
    obtain ⟨rfl, g1, g2⟩ := g1
    exact ⟨Or.inl rfl, zXo_l (by unfold zpN; rw [if_pos g]) rfl g1, g2⟩
theorem zsign_bd {B : Nat → Nat} {n p : Nat} (hB : zBW B n) (h : tkK B p = 4) : tkV B p < 1000 := by
  rw [tkV_s (by omega)]
  exact zB_k hB _
set_option maxRecDepth 20000 in
theorem x_takeStop {σ : qSg} {B : Nat → Nat} {n p : Nat} (hB : zBW B n) (hp : p ≤ n) (h : zXd σ B n p) : qCI 4 105 [qr 50] σ (fun r σ' => zXo (zpS B 59 p) r σ' (fun q => zXd σ' B n q) ∧ zG zPxt zRxt σ σ') := by
  have hk5 := tkK_lt B p
  have hz := zkd_lt hk5
  refine qCI.of [some (qr 50)] ok_105 (Nat.le_of_ble_eq_true rfl) rfl ?_
  refine qV.go 30 [17] ok_105 ?_
  simp only [qW_nop, qW_iconst, qW_bipush, qW_aloadn, qW_iceq, qW_icne, qW_getf, qW_cv1_0, qW_cv1_2, qW_iret1, Nat.reduceAdd, Nat.reduceMul, Nat.reduceBEq, Nat.reduceEqDiff, Nat.reduceLT, Nat.reduceLeDiff, Nat.zero_le, nI_add, nI_mul, nI_cl, qin_eq, qofI, qlg_0, qlg_s, qls_i0, qls_r0, qls_l0, qls_1, qls_2, qkl_i, qkl_r, qkl_l, qkl_n, qIsI_i, qIsL_l, qIsR_r, qint_i, qil_i, qil_r, qil_l, qf4_0, qf4_1, qf4_2, qf4_3, qf2_0, qf2_1, qcs_n, qcs_i, qcs_r, qcs_l, qst_n, qst_c, qJ_0, qJ_st, qJ_go, qfl_I, qfl_Z, qfl_L, qfl_R, qrI_i, qrL_l, qrV_v, qRcv_0, qRcv_s, eq_self, true_and, and_true, true_or, or_true, false_and, and_false, false_or, or_false, ite_true, if_true, if_false, Bool.true_or, Bool.false_or, Bool.or_false, beq_self_eq_true, Bool.false_eq_true, bX7_takeStop_0, bX7_takeStop_17, bX7_takeStop_22, kX7_takeStop_0, kX7_takeStop_17, kX7_takeStop_22, qK_50, qR_50_0, qK_51, qR_50_13, qK_52]
  have e : (nI (zkd (tkK B p)) = nI 3) = (tkK B p = 4) := by
    rw [← zkd_eq hk5 (show 4 < 5 by decide)]
    exact propext (nI_eq (by omega) (by decide))
  rw [h.1.2.2.2.1, e]
  have bad : ¬ (tkK B p = 4 ∧ tkV B p = 59) → qV 105 4 (.inl fun r σ' => zXo (zpS B 59 p) r σ' (fun q => zXd σ' B n q) ∧ zG zPxt zRxt σ σ') 17 [some (qr 50)] [] σ := by
    intro hb
    refine qV.go 30 [9999] ok_105 ?_
    simp only [qW_nop, qW_iconst, qW_bipush, qW_aloadn, qW_iceq, qW_icne, qW_getf, qW_cv1_0, qW_cv1_2, qW_iret1, Nat.reduceAdd, Nat.reduceMul, Nat.reduceBEq, Nat.reduceEqDiff, Nat.reduceLT, Nat.reduceLeDiff, Nat.zero_le, nI_add, nI_mul, nI_cl, qin_eq, qofI, qlg_0, qlg_s, qls_i0, qls_r0, qls_l0, qls_1, qls_2, qkl_i, qkl_r, qkl_l, qkl_n, qIsI_i, qIsL_l, qIsR_r, qint_i, qil_i, qil_r, qil_l, qf4_0, qf4_1, qf4_2, qf4_3, qf2_0, qf2_1, qcs_n, qcs_i, qcs_r, qcs_l, qst_n, qst_c, qJ_0, qJ_st, qJ_go, qfl_I, qfl_Z, qfl_L, qfl_R, qrI_i, qrL_l, qrV_v, qRcv_0, qRcv_s, eq_self, true_and, and_true, true_or, or_true, false_and, and_false, false_or, or_false, ite_true, if_true, if_false, Bool.true_or, Bool.false_or, Bool.or_false, beq_self_eq_true, Bool.false_eq_true, bX7_takeStop_0, bX7_takeStop_17, bX7_takeStop_22, kX7_takeStop_0, kX7_takeStop_17, kX7_takeStop_22, qK_50, qR_50_0, qK_51, qR_50_13, qK_52]
    refine qBI.of (x_cannot h) (by decide) (fun r σ1 g1 => ?_)
    obtain ⟨rfl, g1, g2⟩ := g1
    exact ⟨Or.inl rfl, zXo_l (by unfold zpS; rw [if_neg hb]) rfl g1, g2⟩
  refine ⟨fun g => bad (fun hh => g hh.1), fun g => ?_⟩
  have hv := zsign_bd hB g
  rw [h.1.2.2.2.2.2.2.2 g]
  simp (disch := omega) only [nI_leI, nI_ltI, nI_eq, nI_cl, qin_eq, nI_add, nI_mul, qb_z, qb_t, qb_f, nI_ne0', Nat.reduceAdd, Bool.false_eq_true, if_false, if_true, true_and, and_true, Nat.reduceEqDiff, not_true_eq_false, not_false_eq_true, false_implies, true_implies, ite_true, ite_false]
  refine ⟨fun g2 => ?_, fun g2 => bad (fun hh => g2 hh.2)⟩
  refine qBV.of (x_next hB hp h) (by decide) (fun σ1 g1 => ?_)
  exact ⟨zXo_r (by unfold zpS; rw [if_pos ⟨g, g2⟩]) rfl g1.1, zPxs_t g1.2⟩
/-- a sign that compares -/
def zpC (B : Nat → Nat) (p : Nat) : zR (Nat × Nat) := if tkK B p = 4 ∧ (tkV B p = 60 ∨ tkV B p = 62 ∨ tkV B p = 61) then .inr (tkV B p, tkE B p) else .inl (zno B p 2)
theorem tkK_4 {B : Nat → Nat} {p : Nat} (h : tkK B p = 4) : tkV B p = 59 ∨ tkV B p = 60 ∨ tkV B p = 62 ∨ tkV B p = 61 := by
  have e := tkV_s (B := B) (p := p) (by omega)
  unfold tkK at h
  split at h
  · omega
  · split at h
    · omega
    · split at h
      · split at h <;> omega
      · split at h
        · next hs =>
          simp only [zsi, Bool.or_eq_true, decide_eq_true_eq] at hs
          omega
        · omega
set_option maxRecDepth 20000 in
theorem x_takeCmp {σ : qSg} {B : Nat → Nat} {n p : Nat} (hB : zBW B n) (hp : p ≤ n) (h : zXd σ B n p) : qCI 4 106 [qr 50] σ (fun r σ' => zXo (zpC B p) r σ' (fun v => zXd σ' B n v.2 ∧ σ'.1 50 10 = nI v.1) ∧ zG zPxt zRxt σ σ') := by
  have hk5 := tkK_lt B p
  have hz := zkd_lt hk5
  refine qCI.of [some (qr 50)] ok_106 (Nat.le_of_ble_eq_true rfl) rfl ?_
  refine qV.go 30 [17] ok_106 ?_
  simp only [qW_nop, qW_iconst, qW_bipush, qW_aloadn, qW_icne, qW_getf, qW_cv1_0, qW_cv1_2, qW_iret1, qW_putf0, Nat.reduceAdd, Nat.reduceMul, Nat.reduceBEq, Nat.reduceEqDiff, Nat.reduceLT, Nat.reduceLeDiff, Nat.zero_le, nI_add, nI_mul, nI_cl, qin_eq, qofI, qlg_0, qlg_s, qls_i0, qls_r0, qls_l0, qls_1, qls_2, qkl_i, qkl_r, qkl_l, qkl_n, qIsI_i, qIsL_l, qIsR_r, qint_i, qil_i, qil_r, qil_l, qf4_0, qf4_1, qf4_2, qf4_3, qf2_0, qf2_1, qcs_n, qcs_i, qcs_r, qcs_l, qst_n, qst_c, qJ_0, qJ_st, qJ_go, qfl_I, qfl_Z, qfl_L, qfl_R, qrI_i, qrL_l, qrV_v, qRcv_0, qRcv_s, eq_self, true_and, and_true, true_or, or_true, false_and, and_false, false_or, or_false, ite_true, if_true, if_false, Bool.true_or, Bool.false_or, Bool.or_false, beq_self_eq_true, Bool.false_eq_true, bX7_takeCompares_0, bX7_takeCompares_17, bX7_takeCompares_22, kX7_takeCompares_0, kX7_takeCompares_17, kX7_takeCompares_22, qK_50, qR_50_0, qK_51, qR_50_13, qK_52]
  have e : (nI (zkd (tkK B p)) = nI 3) = (tkK B p = 4) := by
    rw [← zkd_eq hk5 (show 4 < 5 by decide)]
    exact propext (nI_eq (by omega) (by decide))
  rw [h.1.2.2.2.1, e]
  have bad : ¬ (tkK B p = 4 ∧ (tkV B p = 60 ∨ tkV B p = 62 ∨ tkV B p = 61)) → qV 106 4 (.inl fun r σ' => zXo (zpC B p) r σ' (fun v => zXd σ' B n v.2 ∧ σ'.1 50 10 = nI v.1) ∧ zG zPxt zRxt σ σ') 17 [some (qr 50)] [] σ := by
    intro hb
    refine qV.go 30 [9999] ok_106 ?_
    simp only [qW_nop, qW_iconst, qW_bipush, qW_aloadn, qW_icne, qW_getf, qW_cv1_0, qW_cv1_2, qW_iret1, qW_putf0, Nat.reduceAdd, Nat.reduceMul, Nat.reduceBEq, Nat.reduceEqDiff, Nat.reduceLT, Nat.reduceLeDiff, Nat.zero_le, nI_add, nI_mul, nI_cl, qin_eq, qofI, qlg_0, qlg_s, qls_i0, qls_r0, qls_l0, qls_1, qls_2, qkl_i, qkl_r, qkl_l, qkl_n, qIsI_i, qIsL_l, qIsR_r, qint_i, qil_i, qil_r, qil_l, qf4_0, qf4_1, qf4_2, qf4_3, qf2_0, qf2_1, qcs_n, qcs_i, qcs_r, qcs_l, qst_n, qst_c, qJ_0, qJ_st, qJ_go, qfl_I, qfl_Z, qfl_L, qfl_R, qrI_i, qrL_l, qrV_v, qRcv_0, qRcv_s, eq_self, true_and, and_true, true_or, or_true, false_and, and_false, false_or, or_false, ite_true, if_true, if_false, Bool.true_or, Bool.false_or, Bool.or_false, beq_self_eq_true, Bool.false_eq_true, bX7_takeCompares_0, bX7_takeCompares_17, bX7_takeCompares_22, kX7_takeCompares_0, kX7_takeCompares_17, kX7_takeCompares_22, qK_50, qR_50_0, qK_51, qR_50_13, qK_52]
    refine qBI.of (x_cannot h) (by decide) (fun r σ1 g1 => ?_)
    obtain ⟨rfl, g1, g2⟩ := g1
    exact ⟨Or.inl rfl, zXo_l (by unfold zpC; rw [if_neg hb]) rfl g1, g2⟩
  refine ⟨fun g => bad (fun hh => g hh.1), fun g => ?_⟩
  have hv := zsign_bd hB g
  have h4 := tkK_4 g
  rw [h.1.2.2.2.2.2.2.2 g]
  simp (disch := omega) only [nI_leI, nI_ltI, nI_eq, nI_cl, qin_eq, nI_add, nI_mul, qb_z, qb_t, qb_f, nI_ne0', Nat.reduceAdd, Bool.false_eq_true, if_false, if_true, true_and, and_true, Nat.reduceEqDiff, not_true_eq_false, not_false_eq_true, false_implies, true_implies, ite_true, ite_false]
  refine ⟨fun g2 => ?_, fun g2 => bad (fun hh => by omega)⟩
  have h' : zXd (qwi σ 50 10 (nI (tkV B p))) B n p := h.o (P := fun a j => a = 50 ∧ j = 10) (R := fun _ _ => False) (zG.wi ⟨rfl, rfl⟩) (fun j _ _ hh => by omega) (fun j => by omega) (fun j hh => hh) (fun hh => hh)
  refine qBV.of (x_next hB hp h') (by decide) (fun σ1 g1 => ?_)
  refine ⟨zXo_r (a := (tkV B p, tkE B p)) (by unfold zpC; rw [if_pos ⟨g, by omega⟩]) rfl ⟨g1.1, ?_⟩, (zG.wi ⟨rfl, by decide, by decide⟩).tr (zPxs_t g1.2)⟩
  rw [g1.2.1 _ _ (by unfold zPxs; omega), qwi_1, if_pos ⟨rfl, rfl⟩]
-- names
def zXnm (σ : qSg) (r m : Nat) (N : Nat → List Nat) : Prop := ∀ b, b < m → σ.2 (r + 1) b = lN (zcg 32 96 (N b))
theorem zcg_w {w : List Nat} (h : zNm w) : zcg 32 96 w < 9223372036854775808 := Nat.lt_of_lt_of_le (zcg_lt (by decide) zcg_32 w.length w rfl h.2) (Nat.le_trans (Nat.pow_le_pow_right (by decide) h.1) (Nat.le_of_ble_eq_true rfl : 32 ^ 8 ≤ 9223372036854775808))
set_option maxRecDepth 20000 in
theorem x_named {σ : qSg} {r : Nat} {C : zC} (hr : zCb r) (h : zX0 σ r C) (hw : zW C) {N : Nat → List Nat} {w : List Nat} (hn : zXnm σ r (C 0 0) N) (hN : zNW (C 0 0) N) (hwm : zNm w) : qFI 1 13 [qr r, ql (lN (zcg 32 96 w))] σ (if zfd N w (C 0 0) = C 0 0 then iI (-1) else nI (zfd N w (C 0 0))) := by
  have wb := hw.1
  refine qCI.of [some (qr r), some (ql (lN (zcg 32 96 w))), none, none] ok_13 (Nat.le_of_ble_eq_true rfl) rfl ?_
  refine qV.go 30 [2] ok_13 ?_
  simp only [qW_nop, qW_iconst, qW_iconstm, qW_iloadn, qW_lloadn, qW_aloadn, qW_istoren, qW_iinc, qW_lcmp, qW_ifne, qW_icge, qW_goto, qW_getf, qW_lald, qW_iret0, Nat.reduceAdd, Nat.reduceMul, Nat.reduceBEq, Nat.reduceEqDiff, Nat.reduceLT, Nat.reduceLeDiff, Nat.zero_le, nI_add, nI_mul, nI_cl, qin_eq, qofI, qlg_0, qlg_s, qls_i0, qls_r0, qls_l0, qls_1, qls_2, qkl_i, qkl_r, qkl_l, qkl_n, qIsI_i, qIsL_l, qIsR_r, qint_i, qil_i, qil_r, qil_l, qf4_0, qf4_1, qf4_2, qf4_3, qf2_0, qf2_1, qcs_n, qcs_i, qcs_r, qcs_l, qst_n, qst_c, qJ_0, qJ_st, qJ_go, qfl_I, qfl_Z, qfl_L, qfl_R, qrI_i, qrL_l, qrV_v, qRcv_0, qRcv_s, eq_self, true_and, and_true, true_or, or_true, false_and, and_false, false_or, or_false, ite_true, if_true, if_false, Bool.true_or, Bool.false_or, Bool.or_false, beq_self_eq_true, Bool.false_eq_true, bX1_named_0, bX1_named_2, bX1_named_23, bX1_named_29, kX1_named_0, kX1_named_2, kX1_named_23, kX1_named_29, zCb_k hr, zCb_6 hr, zCb_7 hr, zCb_8 hr, zCb_9 hr, zCb_10 hr, zCb_11 hr, zCb_12 hr, zCb_13 hr, zCb_14 hr, zCb_15 hr, zCb_16 hr, zCb_a1 hr, zCb_a2 hr, zCb_a3 hr, zCb_a4 hr, zCb_a5 hr, zCb_a6 hr, zCb_a7 hr, zCb_a8 hr, zCb_a9 hr, zCb_a10 hr, zCb_a11 hr]
  refine qdown (n := C 0 0) (P := fun q => (∀ i, i < q → N i ≠ w) → qV 13 1 (.inl fun r σ' => r = (if zfd N w (C 0 0) = C 0 0 then iI (-1) else nI (zfd N w (C 0 0))) ∧ σ' = σ) 2 [some (qr r), some (ql (lN (zcg 32 96 w))), none, some (qi (nI q))] [] σ) (fun q hq ih => ?_) 0 (Nat.zero_le _) (fun i hi => absurd hi (Nat.not_lt_zero _))
  intro hno
  refine qV.go 30 [2] ok_13 ?_
  simp only [qW_nop, qW_iconst, qW_iconstm, qW_iloadn, qW_lloadn, qW_aloadn, qW_istoren, qW_iinc, qW_lcmp, qW_ifne, qW_icge, qW_goto, qW_getf, qW_lald, qW_iret0, Nat.reduceAdd, Nat.reduceMul, Nat.reduceBEq, Nat.reduceEqDiff, Nat.reduceLT, Nat.reduceLeDiff, Nat.zero_le, nI_add, nI_mul, nI_cl, qin_eq, qofI, qlg_0, qlg_s, qls_i0, qls_r0, qls_l0, qls_1, qls_2, qkl_i, qkl_r, qkl_l, qkl_n, qIsI_i, qIsL_l, qIsR_r, qint_i, qil_i, qil_r, qil_l, qf4_0, qf4_1, qf4_2, qf4_3, qf2_0, qf2_1, qcs_n, qcs_i, qcs_r, qcs_l, qst_n, qst_c, qJ_0, qJ_st, qJ_go, qfl_I, qfl_Z, qfl_L, qfl_R, qrI_i, qrL_l, qrV_v, qRcv_0, qRcv_s, eq_self, true_and, and_true, true_or, or_true, false_and, and_false, false_or, or_false, ite_true, if_true, if_false, Bool.true_or, Bool.false_or, Bool.or_false, beq_self_eq_true, Bool.false_eq_true, bX1_named_0, bX1_named_2, bX1_named_23, bX1_named_29, kX1_named_0, kX1_named_2, kX1_named_23, kX1_named_29, zCb_k hr, zCb_6 hr, zCb_7 hr, zCb_8 hr, zCb_9 hr, zCb_10 hr, zCb_11 hr, zCb_12 hr, zCb_13 hr, zCb_14 hr, zCb_15 hr, zCb_16 hr, zCb_a1 hr, zCb_a2 hr, zCb_a3 hr, zCb_a4 hr, zCb_a5 hr, zCb_a6 hr, zCb_a7 hr, zCb_a8 hr, zCb_a9 hr, zCb_a10 hr, zCb_a11 hr]
  rw [h.b]
  simp (disch := omega) only [nI_leI, nI_ltI, nI_eq, nI_cl, qin_eq, nI_add, nI_mul, qb_z, qb_t, qb_f, nI_ne0', Nat.reduceAdd, Bool.false_eq_true, if_false, if_true, true_and, and_true, Nat.reduceEqDiff, not_true_eq_false, not_false_eq_true, false_implies, true_implies, ite_true, ite_false]
  refine ⟨fun g => ?_, fun g => ?_⟩
  · have e : q = C 0 0 := by omega
    subst e
    rw [if_pos (zfd_no hno)]
  · have hq1 : q < C 0 0 := by omega
    have e1 : (lg_cmp (σ.2 (r + 1) q) (lN (zcg 32 96 w)) = 0) = (N q = w) := by
      rw [hn q hq1, qlcmp0, lN_t' (zcg_w (hN q hq1)), lN_t' (zcg_w hwm)]
      apply propext
      constructor
      · intro e
        exact zcg_inj zcg_32 _ _ _ rfl (hN q hq1).2 hwm.2 (by omega)
      · intro e
        rw [e]
    rw [e1]
    refine ⟨qin_n (by omega) (by decide), fun g2 => ?_, fun g2 => ?_⟩
    · exact ih hq1 (fun i hi => by
        by_cases e : i = q
        · subst e; exact g2
        · exact hno i (by omega))
    · have e2 := zfd_is (m := C 0 0) hq1 g2 hno
      rw [e2, if_neg (by omega)]
theorem tkW_pre (B : Nat → Nat) (p : Nat) : tkW B p = zpre B (tkS B p) (tkE B p - tkS B p) := rfl
theorem zXt.word {σ : qSg} {B : Nat → Nat} {n p : Nat} (h : zXt σ B n p) (hN : zisN B p = true) : σ.2 50 6 = lN (zcg 32 96 (tkW B p)) := by
  obtain ⟨h1, h2, h3⟩ := zisN_K hN
  rw [h.2.2.2.2.2.1 h1]
  exact if_pos h2
def zBh (B : Nat → Nat) (N : Nat → List Nat) (m p : Nat) (σ : qSg) (v : Int32) (σ' : qSg) : Prop :=
  match zpB B N m p with
  | .inl e => v = iI (-1) ∧ zXe σ' e ∧ zG zPxt zRxt σ σ'
  | .inr a => v = nI a.1 ∧ σ' = σ ∧ a.2 = tkE B p ∧ a.1 < m ∧ zisN B p = true
set_option maxRecDepth 20000 in
theorem x_boyHere {σ : qSg} {r : Nat} {C : zC} (hr : zCb r) (h : zX0 σ r C) (hw : zW C) {B : Nat → Nat} {N : Nat → List Nat} {n p : Nat} (hB : zBW B n) (hp : p ≤ n) (hd : zXd σ B n p) (hn : zXnm σ r (C 0 0) N) (hN : zNW (C 0 0) N) : qCI 3 107 [qr 50, qr r] σ (zBh B N (C 0 0) p σ) := by
  have wb := hw.1
  refine qCI.of [some (qr 50), some (qr r), none] ok_107 (Nat.le_of_ble_eq_true rfl) rfl ?_
  refine qV.go 30 [34] ok_107 ?_
  simp only [qW_nop, qW_iconst, qW_iconstm, qW_iloadn, qW_aloadn, qW_istoren, qW_pop, qW_ifne, qW_icne, qW_getf, qW_cv1_0, qW_cv2_0, qW_iret0, Nat.reduceAdd, Nat.reduceMul, Nat.reduceBEq, Nat.reduceEqDiff, Nat.reduceLT, Nat.reduceLeDiff, Nat.zero_le, nI_add, nI_mul, nI_cl, qin_eq, qofI, qlg_0, qlg_s, qls_i0, qls_r0, qls_l0, qls_1, qls_2, qkl_i, qkl_r, qkl_l, qkl_n, qIsI_i, qIsL_l, qIsR_r, qint_i, qil_i, qil_r, qil_l, qf4_0, qf4_1, qf4_2, qf4_3, qf2_0, qf2_1, qcs_n, qcs_i, qcs_r, qcs_l, qst_n, qst_c, qJ_0, qJ_st, qJ_go, qfl_I, qfl_Z, qfl_L, qfl_R, qrI_i, qrL_l, qrV_v, qRcv_0, qRcv_s, eq_self, true_and, and_true, true_or, or_true, false_and, and_false, false_or, or_false, ite_true, if_true, if_false, Bool.true_or, Bool.false_or, Bool.or_false, beq_self_eq_true, Bool.false_eq_true, bX7_boyHere_0, bX7_boyHere_14, bX7_boyHere_34, kX7_boyHere_0, kX7_boyHere_14, kX7_boyHere_34, qK_50, qR_50_0, qK_51, qR_50_13, qK_52, zCb_k hr, zCb_6 hr, zCb_7 hr, zCb_8 hr, zCb_9 hr, zCb_10 hr, zCb_11 hr, zCb_12 hr, zCb_13 hr, zCb_14 hr, zCb_15 hr, zCb_16 hr, zCb_a1 hr, zCb_a2 hr, zCb_a3 hr, zCb_a4 hr, zCb_a5 hr, zCb_a6 hr, zCb_a7 hr, zCb_a8 hr, zCb_a9 hr, zCb_a10 hr, zCb_a11 hr]
  refine qBI.fn (x_isName hB hp hd) (by decide) ?_
  simp (disch := omega) only [nI_leI, nI_ltI, nI_eq, nI_cl, qin_eq, nI_add, nI_mul, qb_z, qb_t, qb_f, nI_ne0', Nat.reduceAdd, Bool.false_eq_true, if_false, if_true, true_and, and_true, Nat.reduceEqDiff, not_true_eq_false, not_false_eq_true, false_implies, true_implies, ite_true, ite_false]
  unfold zBh zpB
  refine ⟨fun g => ?_, fun g => ?_⟩
  · have g' : zisN B p = true := by simpa using g
    have hwm := tkW_Nm hB hp g'
    rw [if_neg (by rw [g']; decide), hd.1.word g']
    refine qBI.fn (x_named hr h hw hn hN hwm) (by decide) ?_
    have hle := zfd_le N (tkW B p) (C 0 0)
    by_cases e1 : zfd N (tkW B p) (C 0 0) = C 0 0
    · rw [if_pos e1, if_pos e1]
      refine ⟨fun g2 => absurd rfl g2, fun _ => ?_⟩
      refine qBI.of (x_fail hd 3) (by decide) (fun v σ1 g1 => ?_)
      obtain ⟨rfl, g1, g2⟩ := g1
      refine qV.go 30 [9999] ok_107 ?_
      simp only [qW_nop, qW_iconst, qW_iconstm, qW_iloadn, qW_aloadn, qW_istoren, qW_pop, qW_ifne, qW_icne, qW_getf, qW_cv1_0, qW_cv2_0, qW_iret0, Nat.reduceAdd, Nat.reduceMul, Nat.reduceBEq, Nat.reduceEqDiff, Nat.reduceLT, Nat.reduceLeDiff, Nat.zero_le, nI_add, nI_mul, nI_cl, qin_eq, qofI, qlg_0, qlg_s, qls_i0, qls_r0, qls_l0, qls_1, qls_2, qkl_i, qkl_r, qkl_l, qkl_n, qIsI_i, qIsL_l, qIsR_r, qint_i, qil_i, qil_r, qil_l, qf4_0, qf4_1, qf4_2, qf4_3, qf2_0, qf2_1, qcs_n, qcs_i, qcs_r, qcs_l, qst_n, qst_c, qJ_0, qJ_st, qJ_go, qfl_I, qfl_Z, qfl_L, qfl_R, qrI_i, qrL_l, qrV_v, qRcv_0, qRcv_s, eq_self, true_and, and_true, true_or, or_true, false_and, and_false, false_or, or_false, ite_true, if_true, if_false, Bool.true_or, Bool.false_or, Bool.or_false, beq_self_eq_true, Bool.false_eq_true, bX7_boyHere_0, bX7_boyHere_14, bX7_boyHere_34, kX7_boyHere_0, kX7_boyHere_14, kX7_boyHere_34, qK_50, qR_50_0, qK_51, qR_50_13, qK_52]
      have k2 := (zisN_K g').1
      rw [zno_ne (by omega)]
      exact ⟨g1, g2⟩
    · rw [if_neg e1, if_neg e1]
      refine ⟨fun _ => ?_, fun g2 => absurd g2 (nI_nem (by omega))⟩
      refine qV.go 30 [9999] ok_107 ?_
      simp only [qW_nop, qW_iconst, qW_iconstm, qW_iloadn, qW_aloadn, qW_istoren, qW_pop, qW_ifne, qW_icne, qW_getf, qW_cv1_0, qW_cv2_0, qW_iret0, Nat.reduceAdd, Nat.reduceMul, Nat.reduceBEq, Nat.reduceEqDiff, Nat.reduceLT, Nat.reduceLeDiff, Nat.zero_le, nI_add, nI_mul, nI_cl, qin_eq, qofI, qlg_0, qlg_s, qls_i0, qls_r0, qls_l0, qls_1, qls_2, qkl_i, qkl_r, qkl_l, qkl_n, qIsI_i, qIsL_l, qIsR_r, qint_i, qil_i, qil_r, qil_l, qf4_0, qf4_1, qf4_2, qf4_3, qf2_0, qf2_1, qcs_n, qcs_i, qcs_r, qcs_l, qst_n, qst_c, qJ_0, qJ_st, qJ_go, qfl_I, qfl_Z, qfl_L, qfl_R, qrI_i, qrL_l, qrV_v, qRcv_0, qRcv_s, eq_self, true_and, and_true, true_or, or_true, false_and, and_false, false_or, or_false, ite_true, if_true, if_false, Bool.true_or, Bool.false_or, Bool.or_false, beq_self_eq_true, Bool.false_eq_true, bX7_boyHere_0, bX7_boyHere_14, bX7_boyHere_34, kX7_boyHere_0, kX7_boyHere_14, kX7_boyHere_34, qK_50, qR_50_0, qK_51, qR_50_13, qK_52]
      exact ⟨by show zfd N (tkW B p) (C 0 0) < C 0 0; omega, g'⟩
  · rw [if_pos g]
    refine qBI.of (x_cannot hd) (by decide) (fun v σ1 g1 => ?_)
    obtain ⟨rfl, g1, g2⟩ := g1
    exact ⟨rfl, g1, g2⟩
set_option maxRecDepth 20000 in
theorem x_open {σ : qSg} {B : Nat → Nat} {n : Nat} (hB : zBW B n) (ht : ∀ k, k < n → σ.1 51 k = zby (B k)) (hw : zXw σ) : qCV 4 91 [qr 50, qi (nI n)] σ (fun σ' => zXd σ' B n 0 ∧ zG (fun a j => a = 50 ∧ 2 ≤ j ∧ j ≤ 12) zRxt σ σ') := by
  have h900 := hB.1
  refine qCV.of [some (qr 50), some (qi (nI n))] ok_91 (Nat.le_of_ble_eq_true rfl) rfl ?_
  refine qV.go 30 [9999] ok_91 ?_
  simp only [qW_nop, qW_iconst, qW_iconstm, qW_sipush, qW_iloadn, qW_aloadn, qW_vret, qW_cv1_2, qW_mmax, qW_mmin, qW_putf0, Nat.reduceAdd, Nat.reduceMul, Nat.reduceBEq, Nat.reduceEqDiff, Nat.reduceLT, Nat.reduceLeDiff, Nat.zero_le, nI_add, nI_mul, nI_cl, qin_eq, qofI, qlg_0, qlg_s, qls_i0, qls_r0, qls_l0, qls_1, qls_2, qkl_i, qkl_r, qkl_l, qkl_n, qIsI_i, qIsL_l, qIsR_r, qint_i, qil_i, qil_r, qil_l, qf4_0, qf4_1, qf4_2, qf4_3, qf2_0, qf2_1, qcs_n, qcs_i, qcs_r, qcs_l, qst_n, qst_c, qJ_0, qJ_st, qJ_go, qfl_I, qfl_Z, qfl_L, qfl_R, qrI_i, qrL_l, qrV_v, qRcv_0, qRcv_s, eq_self, true_and, and_true, true_or, or_true, false_and, and_false, false_or, or_false, ite_true, if_true, if_false, Bool.true_or, Bool.false_or, Bool.or_false, beq_self_eq_true, Bool.false_eq_true, bX7_open_0, kX7_open_0, qK_50, qR_50_0, qK_51, qR_50_13, qK_52]
  rw [qmin_n (by omega) (by decide), qmax_n (by omega) (by omega), show max 0 (min n 900) = n by omega]
  have f1 : zG (fun a j => a = 50 ∧ 2 ≤ j ∧ j ≤ 12) zRxt σ (qwi (qwi (qwi (qwi σ 50 2 (nI n)) 50 3 (nI 0)) 50 11 (nI 0)) 50 12 (iI (-1))) := (((zG.wi ⟨rfl, by decide, by decide⟩).tr (zG.wi ⟨rfl, by decide, by decide⟩)).tr (zG.wi ⟨rfl, by decide, by decide⟩)).tr (zG.wi ⟨rfl, by decide, by decide⟩)
  have r1 : zXr (qwi (qwi (qwi (qwi σ 50 2 (nI n)) 50 3 (nI 0)) 50 11 (nI 0)) 50 12 (iI (-1))) B n := by
    refine ⟨?_, fun k hk => ?_, hw⟩
    · rw [qwi_1, if_neg (by decide), qwi_1, if_neg (by decide), qwi_1, if_neg (by decide), qwi_1, if_pos ⟨rfl, rfl⟩]
    · rw [f1.1 _ _ (by omega)]; exact ht k hk
  have r3 : (qwi (qwi (qwi (qwi σ 50 2 (nI n)) 50 3 (nI 0)) 50 11 (nI 0)) 50 12 (iI (-1))).1 50 3 = nI 0 := by rw [qwi_1, if_neg (by decide), qwi_1, if_neg (by decide), qwi_1, if_pos ⟨rfl, rfl⟩]
  have r11 : (qwi (qwi (qwi (qwi σ 50 2 (nI n)) 50 3 (nI 0)) 50 11 (nI 0)) 50 12 (iI (-1))).1 50 11 = nI 0 := by rw [qwi_1, if_neg (by decide), qwi_1, if_pos ⟨rfl, rfl⟩]
  have r12 : (qwi (qwi (qwi (qwi σ 50 2 (nI n)) 50 3 (nI 0)) 50 11 (nI 0)) 50 12 (iI (-1))).1 50 12 = iI (-1) := by rw [qwi_1, if_pos ⟨rfl, rfl⟩]
  refine qBV.of (x_step0 hB r1 (Nat.zero_le _) r3) (by decide) (fun σ2 g => ?_)
  refine ⟨⟨g.1, ?_, ?_⟩, f1.tr (g.2.wk (fun a j hh => by unfold zPxs at hh; omega) (fun a j hh => hh))⟩
  · rw [g.2.1 _ _ (by unfold zPxs; omega)]; exact r11
  · rw [g.2.1 _ _ (by unfold zPxs; omega)]; exact r12
