/-! the class: the whole state as it holds it -/
def zXwk (σ : qSg) (w : Nat) : Option ((Nat → Nat → Nat) × Nat) → Prop
  | none => σ.1 w 0 = qb false ∧ ∃ st, zXW σ w (fun _ _ => 0) 0 st
  | some x => σ.1 w 0 = qb true ∧ ∃ st, zXW σ w x.1 x.2 st
def zXK (σ : qSg) (r w : Nat) (k : zK) : Prop := zX σ r k.1 ∧ zXnm σ r (k.1 0 0) k.2.1 ∧ zXwk σ w k.2.2
def zXMk (σ : qSg) (M : Nat × (Nat → zK)) : Prop := σ.1 0 16 = nI M.1 ∧ ∀ i, 1 ≤ i → i ≤ M.1 → zXK σ (67 + 18 * i) (79 + 18 * i) (M.2 i)
def zXtp (σ : qSg) (t : zTp) : Prop := σ.1 50 1 = nI t.1 ∧ ∀ j, j < t.1 → σ.1 51 j = zby (t.2 j)
def zXtd (σ : qSg) (d : Bool × (Nat → Nat)) : Prop := σ.1 0 13 = qb d.1 ∧ (d.1 = true → ∀ j, j < 5 → σ.1 82 j = nI (d.2 j))
def zXA (σ : qSg) (A : zA) : Prop :=
  zXK σ 1 74 A.1 ∧ zXMk σ (aM A) ∧ zXT σ (aT A) ∧ zXtp σ (aP A) ∧ zXw σ ∧ (σ.2 0 18 = lN (aF A).1 ∧ σ.2 0 19 = lN (aF A).2) ∧ σ.1 0 17 = nI (aS A) ∧ (σ.1 50 11 = (aE A).1 ∧ σ.1 50 12 = (aE A).2) ∧ zXtd σ (aD A) ∧ ∀ j, j < 60 → σ.1 81 j = nI (aL A j)
theorem zXwk.fr {σ σ' : qSg} {w : Nat} {o : Option ((Nat → Nat → Nat) × Nat)} (h : zXwk σ w o) (e : ∀ a j, w ≤ a → a ≤ w + 5 → σ'.1 a j = σ.1 a j) : zXwk σ' w o := by
  cases o with
  | none =>
    obtain ⟨h1, st, h2⟩ := h
    exact ⟨by rw [e _ _ (by omega) (by omega)]; exact h1, st, h2.fr e⟩
  | some x =>
    obtain ⟨h1, st, h2⟩ := h
    exact ⟨by rw [e _ _ (by omega) (by omega)]; exact h1, st, h2.fr e⟩
theorem zXnm.fr {σ σ' : qSg} {r m : Nat} {N : Nat → List Nat} (h : zXnm σ r m N) (e : ∀ j, σ'.2 (r + 1) j = σ.2 (r + 1) j) : zXnm σ' r m N := fun b hb => by rw [e]; exact h b hb
theorem zXK.fr {σ σ' : qSg} {r w : Nat} {k : zK} (h : zXK σ r w k) (e : ∀ a j, (r ≤ a ∧ a ≤ r + 11) ∨ (w ≤ a ∧ a ≤ w + 5) → σ'.1 a j = σ.1 a j) (e2 : ∀ j, σ'.2 (r + 1) j = σ.2 (r + 1) j) : zXK σ' r w k :=
  ⟨h.1.fr fun a j h1 h2 => e a j (Or.inl ⟨h1, h2⟩), h.2.1.fr e2, h.2.2.fr fun a j h1 h2 => e a j (Or.inr ⟨h1, h2⟩)⟩
theorem zXMk.fr {σ σ' : qSg} {M : Nat × (Nat → zK)} (h : zXMk σ M) (h3 : M.1 ≤ 3) (e0 : σ'.1 0 16 = σ.1 0 16) (e : ∀ a j, 85 ≤ a → a ≤ 138 → σ'.1 a j = σ.1 a j) (e2 : ∀ a j, 86 ≤ a → a ≤ 122 → σ'.2 a j = σ.2 a j) : zXMk σ' M :=
  ⟨e0.trans h.1, fun i i1 i2 => (h.2 i i1 i2).fr (fun a j ha => e a j (by omega) (by omega)) (fun j => e2 _ _ (by omega) (by omega))⟩
theorem zXT.fr {σ σ' : qSg} {T : zT} (h : zXT σ T) (e1 : ∀ j, σ'.1 47 j = σ.1 47 j) (e2 : ∀ j, σ'.1 48 j = σ.1 48 j) (e3 : ∀ j, σ'.2 49 j = σ.2 49 j) : zXT σ' T := fun t ht =>
  ⟨fun hn => by rw [e1]; exact (h t ht).1 hn, fun n hn => ⟨by rw [e1]; exact ((h t ht).2 n hn).1, by rw [e2]; exact ((h t ht).2 n hn).2.1, fun j hj => by rw [e3]; exact ((h t ht).2 n hn).2.2 j hj⟩⟩
theorem zXtp.fr {σ σ' : qSg} {t : zTp} (h : zXtp σ t) (e1 : σ'.1 50 1 = σ.1 50 1) (e2 : ∀ j, σ'.1 51 j = σ.1 51 j) : zXtp σ' t := ⟨e1.trans h.1, fun j hj => by rw [e2]; exact h.2 j hj⟩
theorem zXw.fr {σ σ' : qSg} (h : zXw σ) (e : ∀ j, σ'.2 52 j = σ.2 52 j) : zXw σ' := fun i hi => by rw [e]; exact h i hi
theorem zXtd.fr {σ σ' : qSg} {d : Bool × (Nat → Nat)} (h : zXtd σ d) (e1 : σ'.1 0 13 = σ.1 0 13) (e2 : ∀ j, σ'.1 82 j = σ.1 82 j) : zXtd σ' d := ⟨e1.trans h.1, fun hd j hj => by rw [e2]; exact h.2 hd j hj⟩
-- what must stay, that the state stays
def zXp1 (a j : Nat) : Prop := (1 ≤ a ∧ a ≤ 12) ∨ (74 ≤ a ∧ a ≤ 79) ∨ (81 ≤ a ∧ a ≤ 82) ∨ (85 ≤ a ∧ a ≤ 138) ∨ a = 47 ∨ a = 48 ∨ a = 51 ∨ (a = 50 ∧ (j = 1 ∨ j = 11 ∨ j = 12)) ∨ (a = 0 ∧ (j = 16 ∨ j = 17 ∨ j = 13))
def zXp2 (a j : Nat) : Prop := a = 2 ∨ (86 ≤ a ∧ a ≤ 122) ∨ a = 49 ∨ a = 52 ∨ (a = 0 ∧ (j = 18 ∨ j = 19))
def zXsm (σ σ' : qSg) : Prop := (∀ a j, zXp1 a j → σ'.1 a j = σ.1 a j) ∧ ∀ a j, zXp2 a j → σ'.2 a j = σ.2 a j
theorem zXsm.g {σ σ' : qSg} {P R : Nat → Nat → Prop} (f : zG P R σ σ') (h : ∀ a j, P a j → ¬ zXp1 a j) (h2 : ∀ a j, R a j → ¬ zXp2 a j) : zXsm σ σ' := ⟨fun a j hk => f.1 a j (fun hp => h a j hp hk), fun a j hk => f.2 a j (fun hp => h2 a j hp hk)⟩
theorem zXA.sm {σ σ' : qSg} {A : zA} (h : zXA σ A) (hW : zAW A) (s : zXsm σ σ') : zXA σ' A := by
  have h3 := hW.2.1
  obtain ⟨k1, k2, k3, k4, k5, k6, k7, k8, k9, k10⟩ := h
  refine ⟨k1.fr (fun a j ha => s.1 _ _ (by unfold zXp1; omega)) (fun j => s.2 _ _ (by unfold zXp2; omega)), k2.fr h3 (s.1 _ _ (by unfold zXp1; omega)) (fun a j _ _ => s.1 _ _ (by unfold zXp1; omega)) (fun a j _ _ => s.2 _ _ (by unfold zXp2; omega)), k3.fr (fun j => s.1 _ _ (by unfold zXp1; omega)) (fun j => s.1 _ _ (by unfold zXp1; omega)) (fun j => s.2 _ _ (by unfold zXp2; omega)), k4.fr (s.1 _ _ (by unfold zXp1; omega)) (fun j => s.1 _ _ (by unfold zXp1; omega)), k5.fr (fun j => s.2 _ _ (by unfold zXp2; omega)), ⟨?_, ?_⟩, ?_, ⟨?_, ?_⟩, k9.fr (s.1 _ _ (by unfold zXp1; omega)) (fun j => s.1 _ _ (by unfold zXp1; omega)), fun j hj => ?_⟩
  · rw [s.2 _ _ (by unfold zXp2; omega)]; exact k6.1
  · rw [s.2 _ _ (by unfold zXp2; omega)]; exact k6.2
  · rw [s.1 _ _ (by unfold zXp1; omega)]; exact k7
  · rw [s.1 _ _ (by unfold zXp1; omega)]; exact k8.1
  · rw [s.1 _ _ (by unfold zXp1; omega)]; exact k8.2
  · rw [s.1 _ _ (by unfold zXp1; omega)]; exact k10 j hj
/-- another status -/
theorem zXA.st {σ : qSg} {A : zA} (h : zXA σ A) (hW : zAW A) (v : Nat) : zXA (qwi σ 0 17 (nI v)) (sS A v) := by
  have h3 := hW.2.1
  obtain ⟨k1, k2, k3, k4, k5, k6, k7, k8, k9, k10⟩ := h
  have e : ∀ a j, ¬ (a = 0 ∧ j = 17) → (qwi σ 0 17 (nI v)).1 a j = σ.1 a j := fun a j hn => by rw [qwi_1, if_neg hn]
  refine ⟨k1.fr (fun a j ha => e _ _ (by omega)) (fun j => rfl), k2.fr h3 (e _ _ (by omega)) (fun a j _ _ => e _ _ (by omega)) (fun a j _ _ => rfl), k3.fr (fun j => e _ _ (by omega)) (fun j => e _ _ (by omega)) (fun j => rfl), k4.fr (e _ _ (by omega)) (fun j => e _ _ (by omega)), k5.fr (fun j => rfl), k6, ?_, ⟨?_, ?_⟩, k9.fr (e _ _ (by omega)) (fun j => e _ _ (by omega)), fun j hj => ?_⟩
  · rw [qwi_1, if_pos ⟨rfl, rfl⟩]; rfl
  · rw [e _ _ (by omega)]; exact k8.1
  · rw [e _ _ (by omega)]; exact k8.2
  · rw [e _ _ (by omega)]; exact k10 j hj
/-- another camp, its boys and weeks as they were -/
theorem zXA.c {σ σ' : qSg} {A : zA} (h : zXA σ A) (hW : zAW A) {C : zC} (f : zF (zXf 1) σ σ') (hX : zX σ' 1 C) (hC : C 0 0 = aC A 0 0) : zXA σ' (sC A C) := by
  have h3 := hW.2.1
  obtain ⟨k1, k2, k3, k4, k5, k6, k7, k8, k9, k10⟩ := h
  have e : ∀ a j, ¬ (1 ≤ a ∧ a ≤ 12) → σ'.1 a j = σ.1 a j := fun a j hn => f.1 a j (by unfold zXf; omega)
  have e2 : ∀ a j, σ'.2 a j = σ.2 a j := fun a j => by rw [f.2]
  refine ⟨⟨hX, ?_, k1.2.2.fr fun a j h1 h2 => e a j (by omega)⟩, k2.fr h3 (e _ _ (by omega)) (fun a j _ _ => e _ _ (by omega)) (fun a j _ _ => e2 _ _), k3.fr (fun j => e _ _ (by omega)) (fun j => e _ _ (by omega)) (fun j => e2 _ _), k4.fr (e _ _ (by omega)) (fun j => e _ _ (by omega)), k5.fr (fun j => e2 _ _), ⟨?_, ?_⟩, ?_, ⟨?_, ?_⟩, k9.fr (e _ _ (by omega)) (fun j => e _ _ (by omega)), fun j hj => ?_⟩
  · show zXnm σ' 1 (C 0 0) A.1.2.1
    rw [hC]
    exact k1.2.1.fr fun j => e2 _ _
  · rw [e2]; exact k6.1
  · rw [e2]; exact k6.2
  · rw [e _ _ (by omega)]; exact k7
  · rw [e _ _ (by omega)]; exact k8.1
  · rw [e _ _ (by omega)]; exact k8.2
  · rw [e _ _ (by omega)]; exact k10 j hj
/-- other trays -/
theorem zXA.t {σ σ' : qSg} {A : zA} (h : zXA σ A) (hW : zAW A) {T : zT} (f : zG (fun a _ => a = 47 ∨ a = 48) (fun a _ => a = 49) σ σ') (hT : zXT σ' T) : zXA σ' (sT A T) := by
  have h3 := hW.2.1
  obtain ⟨k1, k2, k3, k4, k5, k6, k7, k8, k9, k10⟩ := h
  have e : ∀ a j, ¬ (a = 47 ∨ a = 48) → σ'.1 a j = σ.1 a j := fun a j hn => f.1 a j hn
  have e2 : ∀ a j, ¬ a = 49 → σ'.2 a j = σ.2 a j := fun a j hn => f.2 a j hn
  refine ⟨k1.fr (fun a j ha => e _ _ (by omega)) (fun j => e2 _ _ (by omega)), k2.fr h3 (e _ _ (by omega)) (fun a j _ _ => e _ _ (by omega)) (fun a j _ _ => e2 _ _ (by omega)), hT, k4.fr (e _ _ (by omega)) (fun j => e _ _ (by omega)), k5.fr (fun j => e2 _ _ (by omega)), ⟨?_, ?_⟩, ?_, ⟨?_, ?_⟩, k9.fr (e _ _ (by omega)) (fun j => e _ _ (by omega)), fun j hj => ?_⟩
  · rw [e2 _ _ (by omega)]; exact k6.1
  · rw [e2 _ _ (by omega)]; exact k6.2
  · rw [e _ _ (by omega)]; exact k7
  · rw [e _ _ (by omega)]; exact k8.1
  · rw [e _ _ (by omega)]; exact k8.2
  · rw [e _ _ (by omega)]; exact k10 j hj
/-- the class's cells alone change -/
def zCls (σ σ' : qSg) : Prop := zG (fun a _ => a < 139) (fun a _ => a < 139) σ σ'
theorem zCls.rf {σ : qSg} : zCls σ σ := zG.rf
theorem zCls.g {σ σ' : qSg} {P R : Nat → Nat → Prop} (f : zG P R σ σ') (h : ∀ a j, P a j → a < 139) (h2 : ∀ a j, R a j → a < 139) : zCls σ σ' := f.wk h h2
theorem zCls.f {σ σ' : qSg} {P : Nat → Nat → Prop} (f : zF P σ σ') (h : ∀ a j, P a j → a < 139) : zCls σ σ' := f.g h
theorem zCls.st {σ : qSg} {x : Int32} : zCls σ (qwi σ 0 17 x) := zG.wi (by decide)
/-- a call of the class: answer, state, frame -/
def zXCall (σ : qSg) (Y : Int32 × zA) (r : Int32) (σ' : qSg) : Prop := r = Y.1 ∧ zXA σ' Y.2 ∧ zCls σ σ' ∧ zAW Y.2
def zXCalL (σ : qSg) (Y : Int64 × zA) (r : Int64) (σ' : qSg) : Prop := r = Y.1 ∧ zXA σ' Y.2 ∧ zCls σ σ' ∧ zAW Y.2
set_option maxRecDepth 20000 in
theorem x_give (σ : qSg) (v : Int32) : qCI 1 139 [qr 0, qi v] σ (fun r σ' => r = v ∧ σ' = qwi σ 0 17 (nI 0)) := by
  refine qCI.of [some (qr 0), some (qi v)] ok_139 (Nat.le_of_ble_eq_true rfl) rfl ?_
  refine qV.go 30 [9999] ok_139 ?_
  simp only [qW_nop, qW_iconst, qW_iloadn, qW_aloadn, qW_iret0, qW_putf0, Nat.reduceAdd, Nat.reduceMul, Nat.reduceBEq, Nat.reduceEqDiff, Nat.reduceLT, Nat.reduceLeDiff, Nat.zero_le, nI_add, nI_mul, nI_cl, qin_eq, qofI, qlg_0, qlg_s, qls_i0, qls_r0, qls_l0, qls_1, qls_2, qkl_i, qkl_r, qkl_l, qkl_n, qIsI_i, qIsL_l, qIsR_r, qint_i, qil_i, qil_r, qil_l, qf4_0, qf4_1, qf4_2, qf4_3, qf2_0, qf2_1, qcs_n, qcs_i, qcs_r, qcs_l, qst_n, qst_c, qJ_0, qJ_st, qJ_go, qfl_I, qfl_Z, qfl_L, qfl_R, qrI_i, qrL_l, qrV_v, qRcv_0, qRcv_s, eq_self, true_and, and_true, true_or, or_true, false_and, and_false, false_or, or_false, ite_true, if_true, if_false, Bool.true_or, Bool.false_or, Bool.or_false, beq_self_eq_true, Bool.false_eq_true, bX11_give_0, kX11_give_0, qK_0, qR_0_0, qK_1, qR_0_1, qK_13, qR_0_2, qK_25, qR_0_3, qK_40, qR_0_4, qK_41, qR_0_5, qK_45, qR_0_6, qK_46, qR_0_7, qK_50, qR_0_8, qK_53, qR_0_9, qK_66, qR_0_10, qK_74, qR_0_11, qK_80, qR_0_12, qK_82, qR_0_14, qK_83, qR_0_15, qK_84]
set_option maxRecDepth 20000 in
theorem x_refuse (σ : qSg) (v : Int32) : qCI 1 140 [qr 0, qi v] σ (fun r σ' => r = iI (-1) ∧ σ' = qwi σ 0 17 v) := by
  refine qCI.of [some (qr 0), some (qi v)] ok_140 (Nat.le_of_ble_eq_true rfl) rfl ?_
  refine qV.go 30 [9999] ok_140 ?_
  simp only [qW_nop, qW_iconstm, qW_iloadn, qW_aloadn, qW_iret0, qW_putf0, Nat.reduceAdd, Nat.reduceMul, Nat.reduceBEq, Nat.reduceEqDiff, Nat.reduceLT, Nat.reduceLeDiff, Nat.zero_le, nI_add, nI_mul, nI_cl, qin_eq, qofI, qlg_0, qlg_s, qls_i0, qls_r0, qls_l0, qls_1, qls_2, qkl_i, qkl_r, qkl_l, qkl_n, qIsI_i, qIsL_l, qIsR_r, qint_i, qil_i, qil_r, qil_l, qf4_0, qf4_1, qf4_2, qf4_3, qf2_0, qf2_1, qcs_n, qcs_i, qcs_r, qcs_l, qst_n, qst_c, qJ_0, qJ_st, qJ_go, qfl_I, qfl_Z, qfl_L, qfl_R, qrI_i, qrL_l, qrV_v, qRcv_0, qRcv_s, eq_self, true_and, and_true, true_or, or_true, false_and, and_false, false_or, or_false, ite_true, if_true, if_false, Bool.true_or, Bool.false_or, Bool.or_false, beq_self_eq_true, Bool.false_eq_true, bX11_refuse_0, kX11_refuse_0, qK_0, qR_0_0, qK_1, qR_0_1, qK_13, qR_0_2, qK_25, qR_0_3, qK_40, qR_0_4, qK_41, qR_0_5, qK_45, qR_0_6, qK_46, qR_0_7, qK_50, qR_0_8, qK_53, qR_0_9, qK_66, qR_0_10, qK_74, qR_0_11, qK_80, qR_0_12, qK_82, qR_0_14, qK_83, qR_0_15, qK_84]
set_option maxRecDepth 20000 in
theorem x_grant (σ : qSg) : qCI 1 141 [qr 0] σ (fun r σ' => r = qb true ∧ σ' = qwi σ 0 17 (nI 0)) := by
  refine qCI.of [some (qr 0)] ok_141 (Nat.le_of_ble_eq_true rfl) rfl ?_
  refine qV.go 30 [9999] ok_141 ?_
  simp only [qW_nop, qW_iconst, qW_aloadn, qW_iret1, qW_putf0, Nat.reduceAdd, Nat.reduceMul, Nat.reduceBEq, Nat.reduceEqDiff, Nat.reduceLT, Nat.reduceLeDiff, Nat.zero_le, nI_add, nI_mul, nI_cl, qin_eq, qofI, qlg_0, qlg_s, qls_i0, qls_r0, qls_l0, qls_1, qls_2, qkl_i, qkl_r, qkl_l, qkl_n, qIsI_i, qIsL_l, qIsR_r, qint_i, qil_i, qil_r, qil_l, qf4_0, qf4_1, qf4_2, qf4_3, qf2_0, qf2_1, qcs_n, qcs_i, qcs_r, qcs_l, qst_n, qst_c, qJ_0, qJ_st, qJ_go, qfl_I, qfl_Z, qfl_L, qfl_R, qrI_i, qrL_l, qrV_v, qRcv_0, qRcv_s, eq_self, true_and, and_true, true_or, or_true, false_and, and_false, false_or, or_false, ite_true, if_true, if_false, Bool.true_or, Bool.false_or, Bool.or_false, beq_self_eq_true, Bool.false_eq_true, bX11_grant_0, kX11_grant_0, qK_0, qR_0_0, qK_1, qR_0_1, qK_13, qR_0_2, qK_25, qR_0_3, qK_40, qR_0_4, qK_41, qR_0_5, qK_45, qR_0_6, qK_46, qR_0_7, qK_50, qR_0_8, qK_53, qR_0_9, qK_66, qR_0_10, qK_74, qR_0_11, qK_80, qR_0_12, qK_82, qR_0_14, qK_83, qR_0_15, qK_84]
  rfl
set_option maxRecDepth 20000 in
theorem x_deny (σ : qSg) (v : Int32) : qCI 1 142 [qr 0, qi v] σ (fun r σ' => r = qb false ∧ σ' = qwi σ 0 17 v) := by
  refine qCI.of [some (qr 0), some (qi v)] ok_142 (Nat.le_of_ble_eq_true rfl) rfl ?_
  refine qV.go 30 [9999] ok_142 ?_
  simp only [qW_nop, qW_iconst, qW_iloadn, qW_aloadn, qW_iret1, qW_putf0, Nat.reduceAdd, Nat.reduceMul, Nat.reduceBEq, Nat.reduceEqDiff, Nat.reduceLT, Nat.reduceLeDiff, Nat.zero_le, nI_add, nI_mul, nI_cl, qin_eq, qofI, qlg_0, qlg_s, qls_i0, qls_r0, qls_l0, qls_1, qls_2, qkl_i, qkl_r, qkl_l, qkl_n, qIsI_i, qIsL_l, qIsR_r, qint_i, qil_i, qil_r, qil_l, qf4_0, qf4_1, qf4_2, qf4_3, qf2_0, qf2_1, qcs_n, qcs_i, qcs_r, qcs_l, qst_n, qst_c, qJ_0, qJ_st, qJ_go, qfl_I, qfl_Z, qfl_L, qfl_R, qrI_i, qrL_l, qrV_v, qRcv_0, qRcv_s, eq_self, true_and, and_true, true_or, or_true, false_and, and_false, false_or, or_false, ite_true, if_true, if_false, Bool.true_or, Bool.false_or, Bool.or_false, beq_self_eq_true, Bool.false_eq_true, bX11_deny_0, kX11_deny_0, qK_0, qR_0_0, qK_1, qR_0_1, qK_13, qR_0_2, qK_25, qR_0_3, qK_40, qR_0_4, qK_41, qR_0_5, qK_45, qR_0_6, qK_46, qR_0_7, qK_50, qR_0_8, qK_53, qR_0_9, qK_66, qR_0_10, qK_74, qR_0_11, qK_80, qR_0_12, qK_82, qR_0_14, qK_83, qR_0_15, qK_84]
  rfl
theorem g_ok {σ σ1 : qSg} {A1 : zA} {Y : Int32 × zA} {v : Int32} {d : Nat} (h : zXA σ1 A1) (hW : zAW A1) (f : zCls σ σ1) (hd : 1 < d) (hY : Y = (v, sS A1 0)) : qBI d 139 [qr 0, qi v] σ1 (zXCall σ Y) := by
  subst hY
  refine qBI.of (x_give _ _) hd (fun r σ2 g => ?_)
  obtain ⟨rfl, rfl⟩ := g
  exact ⟨rfl, h.st hW 0, f.tr zCls.st, hW⟩
theorem g_no {σ σ1 : qSg} {A1 : zA} {Y : Int32 × zA} {k d : Nat} (h : zXA σ1 A1) (hW : zAW A1) (f : zCls σ σ1) (hd : 1 < d) (hY : Y = (iI (-1), sS A1 k)) : qBI d 140 [qr 0, qi (nI k)] σ1 (zXCall σ Y) := by
  subst hY
  refine qBI.of (x_refuse _ _) hd (fun r σ2 g => ?_)
  obtain ⟨rfl, rfl⟩ := g
  exact ⟨rfl, h.st hW k, f.tr zCls.st, hW⟩
theorem g_grant {σ σ1 : qSg} {A1 : zA} {Y : Int32 × zA} {d : Nat} (h : zXA σ1 A1) (hW : zAW A1) (f : zCls σ σ1) (hd : 1 < d) (hY : Y = (qb true, sS A1 0)) : qBI d 141 [qr 0] σ1 (fun r σ' => (r = nI 0 ∨ r = nI 1) ∧ zXCall σ Y r σ') := by
  subst hY
  refine qBI.of (x_grant _) hd (fun r σ2 g => ?_)
  obtain ⟨rfl, rfl⟩ := g
  exact ⟨qb_01 _, rfl, h.st hW 0, f.tr zCls.st, hW⟩
theorem g_deny {σ σ1 : qSg} {A1 : zA} {Y : Int32 × zA} {k d : Nat} (h : zXA σ1 A1) (hW : zAW A1) (f : zCls σ σ1) (hd : 1 < d) (hY : Y = (qb false, sS A1 k)) : qBI d 142 [qr 0, qi (nI k)] σ1 (fun r σ' => (r = nI 0 ∨ r = nI 1) ∧ zXCall σ Y r σ') := by
  subst hY
  refine qBI.of (x_deny _ _) hd (fun r σ2 g => ?_)
  obtain ⟨rfl, rfl⟩ := g
  exact ⟨qb_01 _, rfl, h.st hW k, f.tr zCls.st, hW⟩
set_option maxRecDepth 20000 in
theorem x_within (σ : qSg) (v a b : Int64) : qFI 1 138 [ql v, ql a, ql b] σ (qb (decide (a.toInt ≤ v.toInt) && decide (v.toInt ≤ b.toInt))) := by
  refine qCI.of [some (ql v), none, some (ql a), none, some (ql b), none] ok_138 (Nat.le_of_ble_eq_true rfl) rfl ?_
  refine qV.go 30 [9999] ok_138 ?_
  simp only [qW_nop, qW_iconst, qW_lloadn, qW_lload, qW_lcmp, qW_iflt, qW_ifgt, qW_goto, qW_iret1, Nat.reduceAdd, Nat.reduceMul, Nat.reduceBEq, Nat.reduceEqDiff, Nat.reduceLT, Nat.reduceLeDiff, Nat.zero_le, nI_add, nI_mul, nI_cl, qin_eq, qofI, qlg_0, qlg_s, qls_i0, qls_r0, qls_l0, qls_1, qls_2, qkl_i, qkl_r, qkl_l, qkl_n, qIsI_i, qIsL_l, qIsR_r, qint_i, qil_i, qil_r, qil_l, qf4_0, qf4_1, qf4_2, qf4_3, qf2_0, qf2_1, qcs_n, qcs_i, qcs_r, qcs_l, qst_n, qst_c, qJ_0, qJ_st, qJ_go, qfl_I, qfl_Z, qfl_L, qfl_R, qrI_i, qrL_l, qrV_v, qRcv_0, qRcv_s, eq_self, true_and, and_true, true_or, or_true, false_and, and_false, false_or, or_false, ite_true, if_true, if_false, Bool.true_or, Bool.false_or, Bool.or_false, beq_self_eq_true, Bool.false_eq_true, bX11_within_0, bX11_within_17, bX11_within_18, kX11_within_0, kX11_within_17, kX11_within_18]
  simp only [lg_cmp_lt, lg_cmp_gt, lg_cmp_le, lg_cmp_ge, qllt, qlle]
  by_cases h1 : a.toInt ≤ v.toInt <;> by_cases h2 : v.toInt ≤ b.toInt <;> simp [h1, h2, qb] <;> omega
theorem x_withinL (σ : qSg) (v : Int64) {lo hi : Nat} (h1 : lo < 2147483648) (h2 : hi < 2147483648) : qFI 1 138 [ql v, ql (lN lo), ql (lN hi)] σ (qb (zlh v lo hi)) := by
  have := x_within σ v (lN lo) (lN hi)
  rw [lN_t h1, lN_t h2] at this
  exact this
theorem x_withinI (σ : qSg) (v : Int32) {lo hi : Nat} (h1 : lo < 2147483648) (h2 : hi < 2147483648) : qFI 1 138 [ql v.toInt64, ql (lN lo), ql (lN hi)] σ (qb (zih v lo hi)) := by
  have := x_withinL σ v.toInt64 h1 h2
  rw [zlh_i] at this
  exact this
