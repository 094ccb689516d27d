/-! the class's calls: a camp is read, weeks are read -/
def zXp4 (a j : Nat) : Prop := ¬ zXp1 a j ∨ (1 ≤ a ∧ a ≤ 12) ∨ (74 ≤ a ∧ a ≤ 79) ∨ (a = 50 ∧ (j = 1 ∨ j = 11 ∨ j = 12))
theorem zXA.rd {σ σ' : qSg} {A : zA} {P R : Nat → Nat → Prop} {k : zK} {E : Int32 × Int32} (h : zXA σ A) (hW : zAW A) (f : zG P R σ σ') (hP : ∀ a j, P a j → zXp4 a j) (hR : ∀ a j, R a j → ¬ zXp2 a j ∨ a = 2) (hK : zXK σ' 1 74 k) (h1 : σ'.1 50 1 = nI 0) (hE1 : σ'.1 50 11 = E.1) (hE2 : σ'.1 50 12 = E.2) : zXA σ' (sE (sP (sK A k) (0, (aP A).2)) E) := by
  have h3 := hW.2.1
  obtain ⟨k1, k2, k3, k4, k5, k6, k7, k8, k9, k10⟩ := h
  have e : ∀ a j, ¬ zXp4 a j → σ'.1 a j = σ.1 a j := fun a j hn => f.1 a j (fun hp => hn (hP a j hp))
  have e2 : ∀ a j, zXp2 a j → a ≠ 2 → σ'.2 a j = σ.2 a j := fun a j hn h2 => f.2 a j (fun hp => by
    rcases hR a j hp with q | q
    · exact q hn
    · exact h2 q)
  refine ⟨hK, k2.fr h3 (e _ _ (by unfold zXp4 zXp1; omega)) (fun a j _ _ => e _ _ (by unfold zXp4 zXp1; omega)) (fun a j _ _ => e2 _ _ (by unfold zXp2; omega) (by omega)), k3.fr (fun j => e _ _ (by unfold zXp4 zXp1; omega)) (fun j => e _ _ (by unfold zXp4 zXp1; omega)) (fun j => e2 _ _ (by unfold zXp2; omega) (by omega)), ⟨h1, fun j hj => absurd hj (Nat.not_lt_zero _)⟩, k5.fr (fun j => e2 _ _ (by unfold zXp2; omega) (by omega)), ⟨?_, ?_⟩, ?_, ⟨hE1, hE2⟩, k9.fr (e _ _ (by unfold zXp4 zXp1; omega)) (fun j => e _ _ (by unfold zXp4 zXp1; omega)), fun j hj => ?_⟩
  · rw [e2 _ _ (by unfold zXp2; omega) (by omega)]; exact k6.1
  · rw [e2 _ _ (by unfold zXp2; omega) (by omega)]; exact k6.2
  · rw [e _ _ (by unfold zXp4 zXp1; omega)]; exact k7
  · rw [e _ _ (by unfold zXp4 zXp1; omega)]; exact k10 j hj
theorem zAW.rd {A : zA} (h : zAW A) {k : zK} (hk : zKW k) (E : Int32 × Int32) : zAW (sE (sP (sK A k) (0, (aP A).2)) E) :=
  ⟨hk, h.2.1, h.2.2.1, h.2.2.2.1, ⟨Nat.zero_le _, h.2.2.2.2.1.2⟩, h.2.2.2.2.2⟩
theorem zbeg_n {t : zTp} (ht : t.1 ≤ 900) {x : Int32} {most : Nat} (hm : t.1 ≤ most) : zbeg t x most = zih x 0 t.1 := by
  unfold zbeg
  cases e : zih x 0 t.1 with
  | false => rfl
  | true =>
    unfold zih at e ⊢
    have e1 := of_decide_eq_true (Bool.and_eq_true_iff.mp e).1
    have e2 := of_decide_eq_true (Bool.and_eq_true_iff.mp e).2
    rw [decide_eq_true e1, decide_eq_true (show x.toInt ≤ ((most : Nat) : Int) by omega)]
    rfl
def zPca (a j : Nat) : Prop := zPcq a j ∨ (a = 50 ∧ j = 1)
set_option maxRecDepth 20000 in
theorem X_camp {σ : qSg} {A : zA} (hA : zXA σ A) (hW : zAW A) (x : Int32) : qCI 8 153 [qr 0, qi x] σ (zXCall σ (yCamp A x)) := by
  obtain ⟨w1, w2, w3, w4, w5, w6⟩ := id hW
  obtain ⟨k1, k2, k3, k4, k5, k6, k7, k8, k9, k10⟩ := id hA
  have h900 := w5.1
  have ez : zbeg (aP A) x 900 = zih x 0 (aP A).1 := zbeg_n h900 h900
  refine qCI.of [some (qr 0), some (qi x), none] ok_153 (Nat.le_of_ble_eq_true rfl) rfl ?_
  refine qV.go 30 [9999] ok_153 ?_
  simp only [qW_nop, qW_iconst, qW_bipush, qW_lconst, qW_iloadn, qW_aloadn, qW_istoren, qW_i2l, qW_ifne, qW_getf, qW_cs3_0, qW_cv1_2, qW_cv2_0, qW_cv2_2, qW_iret0, qW_putf0, Nat.reduceAdd, Nat.reduceMul, Nat.reduceBEq, Nat.reduceEqDiff, Nat.reduceLT, Nat.reduceLeDiff, Nat.zero_le, nI_add, nI_mul, nI_cl, qin_eq, qofI, qlg_0, qlg_s, qls_i0, qls_r0, qls_l0, qls_1, qls_2, qkl_i, qkl_r, qkl_l, qkl_n, qIsI_i, qIsL_l, qIsR_r, qint_i, qil_i, qil_r, qil_l, qf4_0, qf4_1, qf4_2, qf4_3, qf2_0, qf2_1, qcs_n, qcs_i, qcs_r, qcs_l, qst_n, qst_c, qJ_0, qJ_st, qJ_go, qfl_I, qfl_Z, qfl_L, qfl_R, qrI_i, qrL_l, qrV_v, qRcv_0, qRcv_s, eq_self, true_and, and_true, true_or, or_true, false_and, and_false, false_or, or_false, ite_true, if_true, if_false, Bool.true_or, Bool.false_or, Bool.or_false, beq_self_eq_true, Bool.false_eq_true, bX11_camp_0, bX11_camp_23, bX11_camp_51, kX11_camp_0, kX11_camp_23, kX11_camp_51, qK_0, qR_0_0, qK_1, qR_0_1, qK_13, qR_0_2, qK_25, qR_0_3, qK_40, qR_0_4, qK_41, qR_0_5, qK_45, qR_0_6, qK_46, qR_0_7, qK_50, qR_0_8, qK_53, qR_0_9, qK_66, qR_0_10, qK_74, qR_0_11, qK_80, qR_0_12, qK_82, qR_0_14, qK_83, qR_0_15, qK_84, qK_50, qR_50_0, qK_51, qR_50_13, qK_52, qK_53, qR_53_0, qK_50, qR_53_1, qK_54, qK_54, qR_54_6, qK_55, qR_54_7, qK_56, qR_54_8, qK_57, qR_54_9, qK_58, qR_54_10, qK_59, qR_54_11, qK_60, qR_54_12, qK_61, qR_54_13, qK_62, qR_54_14, qK_63, qR_54_15, qK_64, qR_54_16, qK_65, qK_1, qR_1_6, qK_2, qR_1_7, qK_3, qR_1_8, qK_4, qR_1_9, qK_5, qR_1_10, qK_6, qR_1_11, qK_7, qR_1_12, qK_8, qR_1_13, qK_9, qR_1_14, qK_10, qR_1_15, qK_11, qR_1_16, qK_12, qK_74, qR_74_3, qK_75, qR_74_4, qK_76, qR_74_5, qK_77, qR_74_6, qK_78, qR_74_7, qK_79]
  rw [k4.1, nI_l' (by omega)]
  refine qBI.fn (x_withinI σ x (lo := 0) (hi := (aP A).1) (by decide) (by omega)) (by decide) ?_
  simp (disch := omega) only [nI_leI, nI_ltI, nI_eq, nI_cl, qin_eq, nI_add, nI_mul, qb_z, qb_t, qb_f, nI_ne0', Nat.reduceAdd, Bool.false_eq_true, if_false, if_true, true_and, and_true, Nat.reduceEqDiff, not_true_eq_false, not_false_eq_true, false_implies, true_implies, ite_true, ite_false, Bool.not_eq_false, Bool.not_eq_true]
  refine And.symm ⟨fun g => ?_, fun hz => ?_⟩
  · exact g_no hA hW zCls.rf (by decide) (by unfold yCamp; rw [ez, if_pos g]; rfl)
  obtain ⟨n, -, hn, rfl⟩ := zih_nI hz
  have eY : yCamp A (nI n) = match zrdC (ztx (aP A).2 n) with
    | .inl e => (iI (-1), sS (sE (sP (sK A A.1) (0, (aP A).2)) (nI e.1, nI e.2)) 9)
    | .inr s => (nI (s.1 0 0), sS (sE (sP (sK A (s.1, s.2.1, none)) (0, (aP A).2)) (nI 0, iI (-1))) 0) := by
    unfold yCamp
    rw [ez, if_neg (by rw [hz]; decide), nI_tn (by omega)]
    cases zrdC (ztx (aP A).2 n) <;> rfl
  rw [eY]
  have hB := ztx_W w5 hn
  have ht : ∀ k, k < n → σ.1 51 k = zby (ztx (aP A).2 n k) := fun k hk => by
    unfold ztx
    rw [if_pos hk]
    exact k4.2 k (by omega)
  refine qBI.of (x_takeInC hB ht k5) (by decide) (fun r σ1 g1 => ?_)
  obtain ⟨g1, f1⟩ := g1
  have c1 : zG zPca zRcr σ (qwi σ1 50 1 (nI 0)) := (f1.wk (fun a j h => Or.inl h) (fun a j h => h)).tr (zG.wi (Or.inr ⟨rfl, rfl⟩))
  have b1 : (qwi σ1 50 1 (nI 0)).1 50 1 = nI 0 := by rw [qwi_1, if_pos ⟨rfl, rfl⟩]
  have o1 : ∀ a j, ¬ (a = 50 ∧ j = 1) → (qwi σ1 50 1 (nI 0)).1 a j = σ1.1 a j := fun a j h => by rw [qwi_1, if_neg h]
  have o2 : (qwi σ1 50 1 (nI 0)).2 = σ1.2 := rfl
  generalize qwi σ1 50 1 (nI 0) = σ2 at c1 b1 o1 o2 ⊢
  cases er : zrdC (ztx (aP A).2 n) with
  | inl e =>
    rw [er] at g1
    obtain ⟨rfl, he⟩ := g1
    simp (disch := omega) only [nI_leI, nI_ltI, nI_eq, nI_cl, qin_eq, nI_add, nI_mul, qb_z, qb_t, qb_f, nI_ne0', Nat.reduceAdd, Bool.false_eq_true, if_false, if_true, true_and, and_true, Nat.reduceEqDiff, not_true_eq_false, not_false_eq_true, false_implies, true_implies, ite_true, ite_false, Bool.not_eq_false, Bool.not_eq_true]
    refine g_no (A1 := sE (sP (sK A A.1) (0, (aP A).2)) (nI e.1, nI e.2)) (hA.rd hW c1 (fun a j h => ?_) (fun a j h => ?_) (k1.fr (fun a j h => ?_) (fun j => ?_)) b1 ?_ ?_) (hW.rd w1 _) (zCls.g c1 (fun a j h => ?_) (fun a j h => ?_)) (by decide) rfl
    · unfold zPca zPcq at h; unfold zXp4 zXp1; omega
    · unfold zRcr at h; unfold zXp2; omega
    · exact c1.1 a j (by unfold zPca zPcq; omega)
    · exact c1.2 _ j (by unfold zRcr; omega)
    · rw [o1 _ _ (by omega)]; exact he.1
    · rw [o1 _ _ (by omega)]; exact he.2
    · unfold zPca zPcq at h; omega
    · unfold zRcr at h; omega
  | inr s =>
    rw [er] at g1
    obtain ⟨rfl, xs, sw, t1, t2⟩ := g1
    simp (disch := omega) only [nI_leI, nI_ltI, nI_eq, nI_cl, qin_eq, nI_add, nI_mul, qb_z, qb_t, qb_f, nI_ne0', Nat.reduceAdd, Bool.false_eq_true, if_false, if_true, true_and, and_true, Nat.reduceEqDiff, not_true_eq_false, not_false_eq_true, false_implies, true_implies, ite_true, ite_false, Bool.not_eq_false, Bool.not_eq_true]
    have X2 : zX σ2 54 s.1 := xs.1.fr fun a j h1 h2 => o1 a j (by omega)
    refine qBV.of (x_copy zCb_n zCb_d (by decide) X2 sw.1) (by decide) (fun σ3 g3 => ?_)
    obtain ⟨X3, n3, f3⟩ := g3
    refine qBV.of (x_drop (Or.inr (Or.inl rfl))) (by decide) (fun σ4 g4 => ?_)
    have o4 : ∀ a j, ¬ (a = 74 ∧ j ≤ 2) → σ4.1 a j = σ3.1 a j := fun a j h => by rw [g4, qwi_1, if_neg (by omega), qwi_1, if_neg (by omega), qwi_1, if_neg (by omega)]
    have w74 : zXwk σ4 74 none := by
      refine ⟨?_, 0, ?_, ?_, fun k hk => absurd hk (Nat.not_lt_zero _)⟩
      · rw [g4, qwi_1, if_neg (by omega), qwi_1, if_neg (by omega), qwi_1, if_pos ⟨rfl, rfl⟩]; rfl
      · rw [g4, qwi_1, if_neg (by omega), qwi_1, if_pos ⟨rfl, rfl⟩]
      · rw [g4, qwi_1, if_pos ⟨rfl, rfl⟩]
    have l4 : σ4.2 = σ3.2 := by rw [g4]; rfl
    have X4 : zX σ4 1 s.1 := X3.fr fun a j h1 h2 => o4 a j (by omega)
    have wb := sw.1.1
    have N4 : zXnm σ4 1 (s.1 0 0) s.2.1 := fun b hb => by
      rw [l4, n3 b (by omega), o2]
      exact xs.2.1 b hb
    have fz : zG (fun a j => zPca a j ∨ (1 ≤ a ∧ a ≤ 12) ∨ (a = 74 ∧ j ≤ 2)) (fun a j => zRcr a j ∨ a = 2) σ σ4 := ⟨fun a j h => by rw [o4 a j (by omega), f3.1 a j (by unfold zXf; omega), c1.1 a j (fun hp => h (Or.inl hp))], fun a j h => by rw [l4, f3.2 a j (by omega), c1.2 a j (fun hp => h (Or.inl hp))]⟩
    have e4 : σ4.1 1 4 = nI (s.1 0 0) := X4.1.b
    rw [e4]
    clear g4
    refine g_ok (A1 := sE (sP (sK A (s.1, s.2.1, none)) (0, (aP A).2)) (nI 0, iI (-1))) (hA.rd hW fz (fun a j h => ?_) (fun a j h => ?_) ⟨X4, N4, w74⟩ ?_ ?_ ?_) (hW.rd ⟨sw.1, by show s.1 0 5 ≤ 9999; rw [sw.2.2.2]; omega, sw.2.1, fun w hw => by cases hw⟩ _) (zCls.g fz (fun a j h => ?_) (fun a j h => ?_)) (by decide) rfl
    · unfold zPca zPcq at h; unfold zXp4 zXp1; omega
    · unfold zRcr at h; unfold zXp2; omega
    · rw [o4 _ _ (by omega), f3.1 _ _ (by unfold zXf; omega)]; exact b1
    · rw [o4 _ _ (by omega), f3.1 _ _ (by unfold zXf; omega), o1 _ _ (by omega)]; exact t1
    · rw [o4 _ _ (by omega), f3.1 _ _ (by unfold zXf; omega), o1 _ _ (by omega)]; exact t2
    · unfold zPca zPcq at h; omega
    · unfold zRcr at h; omega
