/-! the class: tokens -/
def zkd (k : Nat) : Nat := if k = 0 then 0 else if k = 1 then 4 else k - 1
theorem zkd_eq {a b : Nat} (ha : a < 5) (hb : b < 5) : (zkd a = zkd b) = (a = b) := by
  have : ∀ a, a < 5 → ∀ b, b < 5 → zkd a = zkd b → a = b := by decide
  exact propext ⟨fun h => this a ha b hb h, fun h => by rw [h]⟩
theorem zkd_lt {a : Nat} (ha : a < 5) : zkd a < 5 := by
  unfold zkd
  split
  · decide
  · split <;> omega
/-- a word's code (-1: it is too long) -/
def zcd (B : Nat → Nat) (s j : Nat) : Int64 := if j ≤ 8 then lN (zcg 32 96 (zpre B s j)) else -(lN 1)
/-- the token behind p stands -/
def zXt (σ : qSg) (B : Nat → Nat) (n p : Nat) : Prop :=
  zXr σ B n ∧ σ.1 50 3 = nI (tkE B p) ∧ σ.1 50 5 = nI (tkS B p) ∧ σ.1 50 4 = nI (zkd (tkK B p)) ∧ σ.1 50 7 = zkc (tkY B p) ∧ (tkK B p = 2 → σ.2 50 6 = zcd B (tkS B p) (tkE B p - tkS B p)) ∧ (tkK B p = 3 → σ.1 50 8 = nI (tkV B p)) ∧ (tkK B p = 4 → σ.1 50 9 = nI (tkV B p))
def zPxt (a j : Nat) : Prop := a = 50 ∧ 3 ≤ j ∧ j ≤ 12
def zRxt (a j : Nat) : Prop := a = 50 ∧ j = 6
/-- what a token's reading changes -/
def zPxs (a j : Nat) : Prop := a = 50 ∧ 3 ≤ j ∧ j ≤ 9
theorem zPxs_t {σ σ' : qSg} (f : zG zPxs zRxt σ σ') : zG zPxt zRxt σ σ' := f.wk (fun a j h => by unfold zPxs at h; unfold zPxt; omega) (fun _ _ h => h)
theorem zXr.s {σ σ' : qSg} {B : Nat → Nat} {n : Nat} (h : zXr σ B n) (f : zG zPxs zRxt σ σ') : zXr σ' B n := h.f f (by unfold zPxs; omega) (fun j => by unfold zPxs; omega) (fun j => by unfold zRxt; omega)
theorem zXr.t {σ σ' : qSg} {B : Nat → Nat} {n : Nat} (h : zXr σ B n) (f : zG zPxt zRxt σ σ') : zXr σ' B n := h.f f (by unfold zPxt; omega) (fun j => by unfold zPxt; omega) (fun j => by unfold zRxt; omega)
theorem zpre_len (B : Nat → Nat) (s j : Nat) : (zpre B s j).length = j := by
  unfold zpre
  rw [List.length_map, List.length_range]
theorem zpre_sm {B : Nat → Nat} {s j : Nat} (h : ∀ i, i < j → zsm (B (s + i)) = true) : ∀ c, c ∈ zpre B s j → zsm c = true := by
  intro c hc
  unfold zpre at hc
  obtain ⟨i, hi, rfl⟩ := List.mem_map.mp hc
  exact h i (List.mem_range.mp hi)
theorem zkw_8 : ∀ x, x ∈ zkw → x.length ≤ 8 := by decide
set_option maxRecDepth 20000 in
theorem x_wordToken {σ : qSg} {B : Nat → Nat} {n s : Nat} (hB : zBW B n) (h : zXr σ B n) (hs : s ≤ n) (h3 : σ.1 50 3 = nI s) (h5 : σ.1 50 5 = nI s) : qCV 2 94 [qr 50] σ (fun σ' => σ'.1 50 3 = nI (tkA B s) ∧ σ'.1 50 4 = nI 1 ∧ σ'.1 50 5 = nI s ∧ σ'.1 50 7 = zkc (zix (zpre B s (tkA B s - s)) zkw) ∧ σ'.2 50 6 = zcd B s (tkA B s - s) ∧ zG zPxs zRxt σ σ') := by
  have h900 := hB.1
  have hA := tkA_spec hB hs
  refine qCV.of [some (qr 50)] ok_94 (Nat.le_of_ble_eq_true rfl) rfl ?_
  refine qV.go 30 [10] ok_94 ?_
  simp only [qW_nop, qW_iconst, qW_bipush, qW_ldc2m, qW_lconst, qW_aloadn, qW_iadd, qW_isub, qW_dup, qW_ifeq, qW_icge, qW_goto, qW_getf, qW_vret, qW_cs1_0, qW_cs2_1, qW_cv2_0, qW_putf0, qW_putf1, Nat.reduceAdd, Nat.reduceMul, Nat.reduceBEq, Nat.reduceEqDiff, Nat.reduceLT, Nat.reduceLeDiff, Nat.zero_le, nI_add, nI_mul, nI_cl, qin_eq, qofI, qlg_0, qlg_s, qls_i0, qls_r0, qls_l0, qls_1, qls_2, qkl_i, qkl_r, qkl_l, qkl_n, qIsI_i, qIsL_l, qIsR_r, qint_i, qil_i, qil_r, qil_l, qf4_0, qf4_1, qf4_2, qf4_3, qf2_0, qf2_1, qcs_n, qcs_i, qcs_r, qcs_l, qst_n, qst_c, qJ_0, qJ_st, qJ_go, qfl_I, qfl_Z, qfl_L, qfl_R, qrI_i, qrL_l, qrV_v, qRcv_0, qRcv_s, eq_self, true_and, and_true, true_or, or_true, false_and, and_false, false_or, or_false, ite_true, if_true, if_false, Bool.true_or, Bool.false_or, Bool.or_false, beq_self_eq_true, Bool.false_eq_true, bX7_wordToken_0, bX7_wordToken_10, bX7_wordToken_68, bX7_wordToken_71, bX7_wordToken_87, kX7_wordToken_0, kX7_wordToken_10, kX7_wordToken_68, kX7_wordToken_71, kX7_wordToken_87, qK_50, qR_50_0, qK_51, qR_50_13, qK_52]
  have z0 : (0 : Int64) = lN (zcg 32 96 (zpre B s 0)) := rfl
  have g3 : (qwl (qwi σ 50 4 (nI 1)) 50 6 (lN 0)).1 50 3 = nI (s + 0) := by rw [qwl_1, qwi_1, if_neg (by decide)]; exact h3
  have g4 : (qwl (qwi σ 50 4 (nI 1)) 50 6 (lN 0)).1 50 4 = nI 1 := by rw [qwl_1, qwi_1, if_pos ⟨rfl, rfl⟩]
  have g5 : (qwl (qwi σ 50 4 (nI 1)) 50 6 (lN 0)).1 50 5 = nI s := by rw [qwl_1, qwi_1, if_neg (by decide)]; exact h5
  have g6 : (qwl (qwi σ 50 4 (nI 1)) 50 6 (lN 0)).2 50 6 = zcd B s 0 := by
    rw [qwl_2, if_pos ⟨rfl, rfl⟩]
    rfl
  have ff : zG zPxs zRxt σ (qwl (qwi σ 50 4 (nI 1)) 50 6 (lN 0)) := (zG.wi ⟨rfl, by decide, by decide⟩).tr (zG.wl ⟨rfl, rfl⟩)
  refine qdown (n := tkA B s - s) (P := fun j => ∀ σ1 : qSg, σ1.1 50 3 = nI (s + j) → σ1.1 50 4 = nI 1 → σ1.1 50 5 = nI s → σ1.2 50 6 = zcd B s j → zG zPxs zRxt σ σ1 → qV 94 2 (.inr (.inr fun σ' => σ'.1 50 3 = nI (tkA B s) ∧ σ'.1 50 4 = nI 1 ∧ σ'.1 50 5 = nI s ∧ σ'.1 50 7 = zkc (zix (zpre B s (tkA B s - s)) zkw) ∧ σ'.2 50 6 = zcd B s (tkA B s - s) ∧ zG zPxs zRxt σ σ')) 10 [some (qr 50)] [] σ1) (fun j hj ih => ?_) 0 (Nat.zero_le _) _ g3 g4 g5 g6 ff
  clear g3 g4 g5 g6 ff
  intro σ1 g3 g4 g5 g6 f1
  have r1 := h.s f1
  have fin : j = tkA B s - s → qV 94 2 (.inr (.inr fun σ' => σ'.1 50 3 = nI (tkA B s) ∧ σ'.1 50 4 = nI 1 ∧ σ'.1 50 5 = nI s ∧ σ'.1 50 7 = zkc (zix (zpre B s (tkA B s - s)) zkw) ∧ σ'.2 50 6 = zcd B s (tkA B s - s) ∧ zG zPxs zRxt σ σ')) 87 [some (qr 50)] [] σ1 := by
    intro e
    subst e
    refine qV.go 30 [10] ok_94 ?_
    simp only [qW_nop, qW_iconst, qW_bipush, qW_ldc2m, qW_lconst, qW_aloadn, qW_iadd, qW_isub, qW_dup, qW_ifeq, qW_icge, qW_goto, qW_getf, qW_vret, qW_cs1_0, qW_cs2_1, qW_cv2_0, qW_putf0, qW_putf1, Nat.reduceAdd, Nat.reduceMul, Nat.reduceBEq, Nat.reduceEqDiff, Nat.reduceLT, Nat.reduceLeDiff, Nat.zero_le, nI_add, nI_mul, nI_cl, qin_eq, qofI, qlg_0, qlg_s, qls_i0, qls_r0, qls_l0, qls_1, qls_2, qkl_i, qkl_r, qkl_l, qkl_n, qIsI_i, qIsL_l, qIsR_r, qint_i, qil_i, qil_r, qil_l, qf4_0, qf4_1, qf4_2, qf4_3, qf2_0, qf2_1, qcs_n, qcs_i, qcs_r, qcs_l, qst_n, qst_c, qJ_0, qJ_st, qJ_go, qfl_I, qfl_Z, qfl_L, qfl_R, qrI_i, qrL_l, qrV_v, qRcv_0, qRcv_s, eq_self, true_and, and_true, true_or, or_true, false_and, and_false, false_or, or_false, ite_true, if_true, if_false, Bool.true_or, Bool.false_or, Bool.or_false, beq_self_eq_true, Bool.false_eq_true, bX7_wordToken_0, bX7_wordToken_10, bX7_wordToken_68, bX7_wordToken_71, bX7_wordToken_87, kX7_wordToken_0, kX7_wordToken_10, kX7_wordToken_68, kX7_wordToken_71, kX7_wordToken_87, qK_50, qR_50_0, qK_51, qR_50_13, qK_52]
    rw [g6]
    have last : ∀ v, v = zkc (zix (zpre B s (tkA B s - s)) zkw) → (qwi σ1 50 7 v).1 50 3 = nI (tkA B s) ∧ (qwi σ1 50 7 v).1 50 4 = nI 1 ∧ (qwi σ1 50 7 v).1 50 5 = nI s ∧ (qwi σ1 50 7 v).1 50 7 = zkc (zix (zpre B s (tkA B s - s)) zkw) ∧ (qwi σ1 50 7 v).2 50 6 = zcd B s (tkA B s - s) ∧ zG zPxs zRxt σ (qwi σ1 50 7 v) := by
      intro v hv
      refine ⟨?_, ?_, ?_, ?_, g6, f1.tr (zG.wi ⟨rfl, by decide, by decide⟩)⟩
      · rw [qwi_1, if_neg (by decide), g3]; congr 1; omega
      · rw [qwi_1, if_neg (by decide)]; exact g4
      · rw [qwi_1, if_neg (by decide)]; exact g5
      · rw [qwi_1, if_pos ⟨rfl, rfl⟩]; exact hv
    by_cases e8 : tkA B s - s ≤ 8
    · have ez : zcd B s (tkA B s - s) = lN (zcg 32 96 (zpre B s (tkA B s - s))) := if_pos e8
      rw [ez]
      refine qBI.fn (x_reserved r1.2.2 ⟨by rw [zpre_len]; exact e8, zpre_sm fun i hi => hA.2.2.2 _ (by omega) (by omega)⟩) (by decide) ?_
      rw [← ez]
      exact last _ rfl
    · have ez : zcd B s (tkA B s - s) = -(lN 1) := if_neg e8
      rw [ez]
      refine qBI.fn (x_reservedL r1.2.2) (by decide) ?_
      rw [← ez]
      refine last _ ?_
      rw [zix_nin _ zkw (fun hm => by have := zkw_8 _ hm; rw [zpre_len] at this; omega)]
      rfl
  refine qV.go 30 [10, 87] ok_94 ?_
  simp only [qW_nop, qW_iconst, qW_bipush, qW_ldc2m, qW_lconst, qW_aloadn, qW_iadd, qW_isub, qW_dup, qW_ifeq, qW_icge, qW_goto, qW_getf, qW_vret, qW_cs1_0, qW_cs2_1, qW_cv2_0, qW_putf0, qW_putf1, Nat.reduceAdd, Nat.reduceMul, Nat.reduceBEq, Nat.reduceEqDiff, Nat.reduceLT, Nat.reduceLeDiff, Nat.zero_le, nI_add, nI_mul, nI_cl, qin_eq, qofI, qlg_0, qlg_s, qls_i0, qls_r0, qls_l0, qls_1, qls_2, qkl_i, qkl_r, qkl_l, qkl_n, qIsI_i, qIsL_l, qIsR_r, qint_i, qil_i, qil_r, qil_l, qf4_0, qf4_1, qf4_2, qf4_3, qf2_0, qf2_1, qcs_n, qcs_i, qcs_r, qcs_l, qst_n, qst_c, qJ_0, qJ_st, qJ_go, qfl_I, qfl_Z, qfl_L, qfl_R, qrI_i, qrL_l, qrV_v, qRcv_0, qRcv_s, eq_self, true_and, and_true, true_or, or_true, false_and, and_false, false_or, or_false, ite_true, if_true, if_false, Bool.true_or, Bool.false_or, Bool.or_false, beq_self_eq_true, Bool.false_eq_true, bX7_wordToken_0, bX7_wordToken_10, bX7_wordToken_68, bX7_wordToken_71, bX7_wordToken_87, kX7_wordToken_0, kX7_wordToken_10, kX7_wordToken_68, kX7_wordToken_71, kX7_wordToken_87, qK_50, qR_50_0, qK_51, qR_50_13, qK_52]
  rw [g3, r1.1]
  simp (disch := omega) only [nI_leI, nI_ltI, nI_eq, nI_cl, qin_eq, nI_add, nI_mul, qb_z, qb_t, qb_f, nI_ne0', Nat.reduceAdd, Bool.false_eq_true, if_false, if_true, true_and, and_true, Nat.reduceEqDiff, not_true_eq_false, not_false_eq_true, false_implies, true_implies, ite_true, ite_false]
  refine ⟨fun g => fin (by omega), fun g => ?_⟩
  refine qBI.fn (x_signAt hB r1 (by omega)) (by decide) (qBI.fn (x_isLetter σ1 (by have := zc0_lt hB (s + j); omega)) (by decide) ?_)
  rw [zc0_sm]
  simp (disch := omega) only [nI_leI, nI_ltI, nI_eq, nI_cl, qin_eq, nI_add, nI_mul, qb_z, qb_t, qb_f, nI_ne0', Nat.reduceAdd, Bool.false_eq_true, if_false, if_true, true_and, and_true, Nat.reduceEqDiff, not_true_eq_false, not_false_eq_true, false_implies, true_implies, ite_true, ite_false]
  refine ⟨fun g2 => fin ?_, fun g2 => ?_⟩
  · rcases Nat.lt_or_ge j (tkA B s - s) with e | e
    · have := hA.2.2.2 (s + j) (by omega) (by omega)
      rw [g2] at this
      cases this
    · omega
  · have g2 : zsm (B (s + j)) = true := by simpa using g2
    have hj1 : j < tkA B s - s := by
      rcases Nat.lt_or_ge j (tkA B s - s) with e | e
      · exact e
      · have e2 : s + j = tkA B s := by omega
        have := hA.2.2.1
        rw [← e2, g2] at this
        cases this
    have es : zcd B s (j + 1) = if j + 1 ≤ 8 then lN (zcg 32 96 (zpre B s (j + 1))) else -(lN 1) := rfl
    rw [g5, g3, nI_sub (by omega)]
    simp only [Nat.add_sub_cancel_left]
    have nx : ∀ v, v = zcd B s (j + 1) → qV 94 2 (.inr (.inr fun σ' => σ'.1 50 3 = nI (tkA B s) ∧ σ'.1 50 4 = nI 1 ∧ σ'.1 50 5 = nI s ∧ σ'.1 50 7 = zkc (zix (zpre B s (tkA B s - s)) zkw) ∧ σ'.2 50 6 = zcd B s (tkA B s - s) ∧ zG zPxs zRxt σ σ')) 10 [some (qr 50)] [] (qwi (qwl σ1 50 6 v) 50 3 ((qwl σ1 50 6 v).1 50 3 + nI 1)) := by
      intro v hv
      refine ih hj1 _ ?_ ?_ ?_ ?_ ((f1.tr (zG.wl ⟨rfl, rfl⟩)).tr (zG.wi ⟨rfl, by decide, by decide⟩))
      · rw [qwi_1, if_pos ⟨rfl, rfl⟩, qwl_1, g3, nI_add]; rfl
      · rw [qwi_1, if_neg (by decide), qwl_1]; exact g4
      · rw [qwi_1, if_neg (by decide), qwl_1]; exact g5
      · rw [qwi_2, qwl_2, if_pos ⟨rfl, rfl⟩]; exact hv
    simp (disch := omega) only [nI_leI, nI_ltI, nI_eq, nI_cl, qin_eq, nI_add, nI_mul, qb_z, qb_t, qb_f, nI_ne0', Nat.reduceAdd, Bool.false_eq_true, if_false, if_true, true_and, and_true, Nat.reduceEqDiff, not_true_eq_false, not_false_eq_true, false_implies, true_implies, ite_true, ite_false]
    refine ⟨fun g8 => ?_, fun g8 => ?_⟩
    · exact nx _ (by rw [es, if_neg (by omega)])
    · refine qBI.fn (x_signAt hB r1 (by omega)) (by decide) ?_
      have ez : zcd B s j = lN (zcg 32 96 (zpre B s j)) := if_pos (by omega)
      have e9 : zc0 (B (s + j)) = B (s + j) := by
        unfold zc0
        rw [if_neg]
        intro e
        rw [e] at g2
        exact absurd g2 (by decide)
      rw [g6, ez, e9]
      refine qBL.fn (x_withLetter σ1 _ g2) (by decide) ?_
      exact nx _ (by rw [es, if_pos (by omega), zpre_s, zcg_snoc])
set_option maxRecDepth 20000 in
theorem x_numberToken {σ : qSg} {B : Nat → Nat} {n s : Nat} (hB : zBW B n) (h : zXr σ B n) (hs : s ≤ n) (h3 : σ.1 50 3 = nI s) (h5 : σ.1 50 5 = nI s) (h7 : σ.1 50 7 = iI (-1)) : qCV 2 95 [qr 50] σ (fun σ' => σ'.1 50 3 = nI (tkD B s) ∧ σ'.1 50 4 = nI (if 4 < tkD B s - s then 4 else 2) ∧ σ'.1 50 5 = nI s ∧ σ'.1 50 7 = iI (-1) ∧ (tkD B s - s ≤ 4 → σ'.1 50 8 = nI (zval B s (tkD B s - s))) ∧ zG zPxs zRxt σ σ') := by
  have h900 := hB.1
  have hA := tkD_spec hB hs
  refine qCV.of [some (qr 50)] ok_95 (Nat.le_of_ble_eq_true rfl) rfl ?_
  refine qV.go 30 [5] ok_95 ?_
  simp only [qW_nop, qW_iconst, qW_bipush, qW_aloadn, qW_iadd, qW_isub, qW_imul, qW_dup, qW_ifeq, qW_icge, qW_icle, qW_goto, qW_getf, qW_vret, qW_cs1_0, qW_cv2_0, qW_putf0, Nat.reduceAdd, Nat.reduceMul, Nat.reduceBEq, Nat.reduceEqDiff, Nat.reduceLT, Nat.reduceLeDiff, Nat.zero_le, nI_add, nI_mul, nI_cl, qin_eq, qofI, qlg_0, qlg_s, qls_i0, qls_r0, qls_l0, qls_1, qls_2, qkl_i, qkl_r, qkl_l, qkl_n, qIsI_i, qIsL_l, qIsR_r, qint_i, qil_i, qil_r, qil_l, qf4_0, qf4_1, qf4_2, qf4_3, qf2_0, qf2_1, qcs_n, qcs_i, qcs_r, qcs_l, qst_n, qst_c, qJ_0, qJ_st, qJ_go, qfl_I, qfl_Z, qfl_L, qfl_R, qrI_i, qrL_l, qrV_v, qRcv_0, qRcv_s, eq_self, true_and, and_true, true_or, or_true, false_and, and_false, false_or, or_false, ite_true, if_true, if_false, Bool.true_or, Bool.false_or, Bool.or_false, beq_self_eq_true, Bool.false_eq_true, bX7_numberToken_0, bX7_numberToken_5, bX7_numberToken_66, bX7_numberToken_67, bX7_numberToken_83, bX7_numberToken_101, bX7_numberToken_102, kX7_numberToken_0, kX7_numberToken_5, kX7_numberToken_66, kX7_numberToken_67, kX7_numberToken_83, kX7_numberToken_101, kX7_numberToken_102, qK_50, qR_50_0, qK_51, qR_50_13, qK_52]
  have g3 : (qwi σ 50 8 (nI 0)).1 50 3 = nI (s + 0) := by rw [qwi_1, if_neg (by decide)]; exact h3
  have g5 : (qwi σ 50 8 (nI 0)).1 50 5 = nI s := by rw [qwi_1, if_neg (by decide)]; exact h5
  have g7 : (qwi σ 50 8 (nI 0)).1 50 7 = iI (-1) := by rw [qwi_1, if_neg (by decide)]; exact h7
  have g8 : (0 : Nat) ≤ 4 → (qwi σ 50 8 (nI 0)).1 50 8 = nI (zval B s 0) := fun _ => by rw [qwi_1, if_pos ⟨rfl, rfl⟩]; rfl
  have ff : zG zPxs zRxt σ (qwi σ 50 8 (nI 0)) := zG.wi ⟨rfl, by decide, by decide⟩
  refine qdown (n := tkD B s - s) (P := fun j => ∀ σ1 : qSg, σ1.1 50 3 = nI (s + j) → σ1.1 50 5 = nI s → σ1.1 50 7 = iI (-1) → (j ≤ 4 → σ1.1 50 8 = nI (zval B s j)) → zG zPxs zRxt σ σ1 → qV 95 2 (.inr (.inr fun σ' => σ'.1 50 3 = nI (tkD B s) ∧ σ'.1 50 4 = nI (if 4 < tkD B s - s then 4 else 2) ∧ σ'.1 50 5 = nI s ∧ σ'.1 50 7 = iI (-1) ∧ (tkD B s - s ≤ 4 → σ'.1 50 8 = nI (zval B s (tkD B s - s))) ∧ zG zPxs zRxt σ σ')) 5 [some (qr 50)] [] σ1) (fun j hj ih => ?_) 0 (Nat.zero_le _) _ g3 g5 g7 g8 ff
  clear g3 g5 g7 g8 ff
  intro σ1 g3 g5 g7 g8 f1
  have r1 := h.s f1
  have fin : j = tkD B s - s → qV 95 2 (.inr (.inr fun σ' => σ'.1 50 3 = nI (tkD B s) ∧ σ'.1 50 4 = nI (if 4 < tkD B s - s then 4 else 2) ∧ σ'.1 50 5 = nI s ∧ σ'.1 50 7 = iI (-1) ∧ (tkD B s - s ≤ 4 → σ'.1 50 8 = nI (zval B s (tkD B s - s))) ∧ zG zPxs zRxt σ σ')) 83 [some (qr 50)] [] σ1 := by
    intro e
    have last : ∀ v, v = nI (if 4 < tkD B s - s then 4 else 2) → (qwi σ1 50 4 v).1 50 3 = nI (tkD B s) ∧ (qwi σ1 50 4 v).1 50 4 = nI (if 4 < tkD B s - s then 4 else 2) ∧ (qwi σ1 50 4 v).1 50 5 = nI s ∧ (qwi σ1 50 4 v).1 50 7 = iI (-1) ∧ (tkD B s - s ≤ 4 → (qwi σ1 50 4 v).1 50 8 = nI (zval B s (tkD B s - s))) ∧ zG zPxs zRxt σ (qwi σ1 50 4 v) := by
      intro v hv
      refine ⟨?_, ?_, ?_, ?_, fun h4 => ?_, f1.tr (zG.wi ⟨rfl, by decide, by decide⟩)⟩
      · rw [qwi_1, if_neg (by decide), g3]; congr 1; omega
      · rw [qwi_1, if_pos ⟨rfl, rfl⟩]; exact hv
      · rw [qwi_1, if_neg (by decide)]; exact g5
      · rw [qwi_1, if_neg (by decide)]; exact g7
      · rw [qwi_1, if_neg (by decide), ← e]; exact g8 (by omega)
    refine qV.go 30 [5] ok_95 ?_
    simp only [qW_nop, qW_iconst, qW_bipush, qW_aloadn, qW_iadd, qW_isub, qW_imul, qW_dup, qW_ifeq, qW_icge, qW_icle, qW_goto, qW_getf, qW_vret, qW_cs1_0, qW_cv2_0, qW_putf0, Nat.reduceAdd, Nat.reduceMul, Nat.reduceBEq, Nat.reduceEqDiff, Nat.reduceLT, Nat.reduceLeDiff, Nat.zero_le, nI_add, nI_mul, nI_cl, qin_eq, qofI, qlg_0, qlg_s, qls_i0, qls_r0, qls_l0, qls_1, qls_2, qkl_i, qkl_r, qkl_l, qkl_n, qIsI_i, qIsL_l, qIsR_r, qint_i, qil_i, qil_r, qil_l, qf4_0, qf4_1, qf4_2, qf4_3, qf2_0, qf2_1, qcs_n, qcs_i, qcs_r, qcs_l, qst_n, qst_c, qJ_0, qJ_st, qJ_go, qfl_I, qfl_Z, qfl_L, qfl_R, qrI_i, qrL_l, qrV_v, qRcv_0, qRcv_s, eq_self, true_and, and_true, true_or, or_true, false_and, and_false, false_or, or_false, ite_true, if_true, if_false, Bool.true_or, Bool.false_or, Bool.or_false, beq_self_eq_true, Bool.false_eq_true, bX7_numberToken_0, bX7_numberToken_5, bX7_numberToken_66, bX7_numberToken_67, bX7_numberToken_83, bX7_numberToken_101, bX7_numberToken_102, kX7_numberToken_0, kX7_numberToken_5, kX7_numberToken_66, kX7_numberToken_67, kX7_numberToken_83, kX7_numberToken_101, kX7_numberToken_102, qK_50, qR_50_0, qK_51, qR_50_13, qK_52]
    rw [g3, g5, nI_sub (by omega)]
    simp only [Nat.add_sub_cancel_left]
    simp (disch := omega) only [nI_leI, nI_ltI, nI_eq, nI_cl, qin_eq, nI_add, nI_mul, qb_z, qb_t, qb_f, nI_ne0', Nat.reduceAdd, Bool.false_eq_true, if_false, if_true, true_and, and_true, Nat.reduceEqDiff, not_true_eq_false, not_false_eq_true, false_implies, true_implies, ite_true, ite_false]
    refine ⟨fun g => last _ (by rw [if_neg (by omega)]), fun g => last _ (by rw [if_pos (by omega)])⟩
  refine qV.go 30 [5, 83] ok_95 ?_
  simp only [qW_nop, qW_iconst, qW_bipush, qW_aloadn, qW_iadd, qW_isub, qW_imul, qW_dup, qW_ifeq, qW_icge, qW_icle, qW_goto, qW_getf, qW_vret, qW_cs1_0, qW_cv2_0, qW_putf0, Nat.reduceAdd, Nat.reduceMul, Nat.reduceBEq, Nat.reduceEqDiff, Nat.reduceLT, Nat.reduceLeDiff, Nat.zero_le, nI_add, nI_mul, nI_cl, qin_eq, qofI, qlg_0, qlg_s, qls_i0, qls_r0, qls_l0, qls_1, qls_2, qkl_i, qkl_r, qkl_l, qkl_n, qIsI_i, qIsL_l, qIsR_r, qint_i, qil_i, qil_r, qil_l, qf4_0, qf4_1, qf4_2, qf4_3, qf2_0, qf2_1, qcs_n, qcs_i, qcs_r, qcs_l, qst_n, qst_c, qJ_0, qJ_st, qJ_go, qfl_I, qfl_Z, qfl_L, qfl_R, qrI_i, qrL_l, qrV_v, qRcv_0, qRcv_s, eq_self, true_and, and_true, true_or, or_true, false_and, and_false, false_or, or_false, ite_true, if_true, if_false, Bool.true_or, Bool.false_or, Bool.or_false, beq_self_eq_true, Bool.false_eq_true, bX7_numberToken_0, bX7_numberToken_5, bX7_numberToken_66, bX7_numberToken_67, bX7_numberToken_83, bX7_numberToken_101, bX7_numberToken_102, kX7_numberToken_0, kX7_numberToken_5, kX7_numberToken_66, kX7_numberToken_67, kX7_numberToken_83, kX7_numberToken_101, kX7_numberToken_102, qK_50, qR_50_0, qK_51, qR_50_13, qK_52]
  rw [g3, r1.1]
  simp (disch := omega) only [nI_leI, nI_ltI, nI_eq, nI_cl, qin_eq, nI_add, nI_mul, qb_z, qb_t, qb_f, nI_ne0', Nat.reduceAdd, Bool.false_eq_true, if_false, if_true, true_and, and_true, Nat.reduceEqDiff, not_true_eq_false, not_false_eq_true, false_implies, true_implies, ite_true, ite_false]
  refine ⟨fun g => fin (by omega), fun g => ?_⟩
  refine qBI.fn (x_signAt hB r1 (by omega)) (by decide) (qBI.fn (x_isDigit σ1 (by have := zc0_lt hB (s + j); omega)) (by decide) ?_)
  rw [zc0_di]
  simp (disch := omega) only [nI_leI, nI_ltI, nI_eq, nI_cl, qin_eq, nI_add, nI_mul, qb_z, qb_t, qb_f, nI_ne0', Nat.reduceAdd, Bool.false_eq_true, if_false, if_true, true_and, and_true, Nat.reduceEqDiff, not_true_eq_false, not_false_eq_true, false_implies, true_implies, ite_true, ite_false]
  refine ⟨fun g2 => fin ?_, fun g2 => ?_⟩
  · rcases Nat.lt_or_ge j (tkD B s - s) with e | e
    · have := hA.2.2.2 (s + j) (by omega) (by omega)
      rw [g2] at this
      cases this
    · omega
  · have g2 : zdi (B (s + j)) = true := by simpa using g2
    have hj1 : j < tkD B s - s := by
      rcases Nat.lt_or_ge j (tkD B s - s) with e | e
      · exact e
      · have e2 : s + j = tkD B s := by omega
        have := hA.2.2.1
        rw [← e2, g2] at this
        cases this
    rw [g5, g3, nI_sub (by omega)]
    simp only [Nat.add_sub_cancel_left]
    have nx : ∀ v, (j + 1 ≤ 4 → v = nI (zval B s (j + 1))) → qV 95 2 (.inr (.inr fun σ' => σ'.1 50 3 = nI (tkD B s) ∧ σ'.1 50 4 = nI (if 4 < tkD B s - s then 4 else 2) ∧ σ'.1 50 5 = nI s ∧ σ'.1 50 7 = iI (-1) ∧ (tkD B s - s ≤ 4 → σ'.1 50 8 = nI (zval B s (tkD B s - s))) ∧ zG zPxs zRxt σ σ')) 5 [some (qr 50)] [] (qwi (qwi σ1 50 8 v) 50 3 ((qwi σ1 50 8 v).1 50 3 + nI 1)) := by
      intro v hv
      refine ih hj1 _ ?_ ?_ ?_ (fun h4 => ?_) ((f1.tr (zG.wi ⟨rfl, by decide, by decide⟩)).tr (zG.wi ⟨rfl, by decide, by decide⟩))
      · rw [qwi_1, if_pos ⟨rfl, rfl⟩, qwi_1, if_neg (by decide), g3, nI_add]; rfl
      · rw [qwi_1, if_neg (by decide), qwi_1, if_neg (by decide)]; exact g5
      · rw [qwi_1, if_neg (by decide), qwi_1, if_neg (by decide)]; exact g7
      · rw [qwi_1, if_neg (by decide), qwi_1, if_pos ⟨rfl, rfl⟩]; exact hv h4
    simp (disch := omega) only [nI_leI, nI_ltI, nI_eq, nI_cl, qin_eq, nI_add, nI_mul, qb_z, qb_t, qb_f, nI_ne0', Nat.reduceAdd, Bool.false_eq_true, if_false, if_true, true_and, and_true, Nat.reduceEqDiff, not_true_eq_false, not_false_eq_true, false_implies, true_implies, ite_true, ite_false]
    refine ⟨fun g9 => ?_, fun g9 => ?_⟩
    · exact nx _ (fun h4 => by omega)
    · refine qBI.fn (x_signAt hB r1 (by omega)) (by decide) ?_
      have e9 : zc0 (B (s + j)) = B (s + j) := by
        unfold zc0
        rw [if_neg]
        intro e
        rw [e] at g2
        exact absurd g2 (by decide)
      have ed : 48 ≤ B (s + j) := by
        simp only [zdi, Bool.and_eq_true, decide_eq_true_eq] at g2
        omega
      rw [g8 (by omega), e9, nI_sub ed]
      simp only [nI_mul, nI_add]
      refine nx _ (fun _ => ?_)
      simp only [zval]
      congr 1
      omega
