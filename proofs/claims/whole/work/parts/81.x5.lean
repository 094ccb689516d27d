/-! the class: minutes that pass, from one in which somebody yields to the next -/
def zearf (C : zC) (up : Nat) : Nat → Int
  | 0 => 1000000
  | q + 1 => if zOpen C q = true then min (zearf C up q) (min (zdue C (C 6 q) q up) (zdue C (C 7 q) q up)) else zearf C up q
/-- the earliest due minute -/
def zear (C : zC) : Int := zearf C (zups C) (C 0 1)
theorem zearf_s (C : zC) (up q : Nat) : zearf C up (q + 1) = if zOpen C q = true then min (zearf C up q) (min (zdue C (C 6 q) q up) (zdue C (C 7 q) q up)) else zearf C up q := rfl
theorem zearf_le (C : zC) (up : Nat) : ∀ n, zearf C up n ≤ 1000000 ∧ ∀ q, q < n → zOpen C q = true → zearf C up n ≤ zdue C (C 6 q) q up ∧ zearf C up n ≤ zdue C (C 7 q) q up
  | 0 => ⟨Int.le_refl _, fun q hq => absurd hq (Nat.not_lt_zero _)⟩
  | n + 1 => by
    obtain ⟨i1, i2⟩ := zearf_le C up n
    rw [zearf_s]
    by_cases h : zOpen C n = true
    · rw [if_pos h]
      refine ⟨by omega, fun q hq ho => ?_⟩
      by_cases e : q = n
      · subst e; omega
      · have := i2 q (by omega) ho; omega
    · rw [if_neg h]
      refine ⟨i1, fun q hq ho => ?_⟩
      by_cases e : q = n
      · subst e; exact absurd ho h
      · exact i2 q (by omega) ho
theorem zearf_ex (C : zC) (up : Nat) : ∀ n, zearf C up n = 1000000 ∨ ∃ q, q < n ∧ zOpen C q = true ∧ (zearf C up n = zdue C (C 6 q) q up ∨ zearf C up n = zdue C (C 7 q) q up)
  | 0 => Or.inl rfl
  | n + 1 => by
    rw [zearf_s]
    by_cases h : zOpen C n = true
    · rw [if_pos h]
      rcases zearf_ex C up n with i | ⟨q, h1, h2, h3⟩
      · by_cases g : zearf C up n ≤ min (zdue C (C 6 n) n up) (zdue C (C 7 n) n up)
        · exact Or.inl (by omega)
        · exact Or.inr ⟨n, by omega, h, by omega⟩
      · by_cases g : zearf C up n ≤ min (zdue C (C 6 n) n up) (zdue C (C 7 n) n up)
        · exact Or.inr ⟨q, by omega, h2, by omega⟩
        · exact Or.inr ⟨n, by omega, h, by omega⟩
    · rw [if_neg h]
      rcases zearf_ex C up n with i | ⟨q, h1, h2, h3⟩
      · exact Or.inl i
      · exact Or.inr ⟨q, by omega, h2, h3⟩
theorem zmf_none {C : zC} {up : Nat} : ∀ q, (∀ i, i < q → zOpen C i = true → zwho C up i = 0) → zmf up C q = (C, 0, 0)
  | 0, _ => rfl
  | q + 1, h => by
    have ih := zmf_none q (fun i hi => h i (by omega))
    rw [zmf_s, ih]
    dsimp only
    rw [if_neg]
    rintro ⟨h1, h2⟩
    exact h2 (h q (by omega) h1)
theorem zmin_none {C : zC} (h : (C 0 5 : Int) < zear C) : zmin C = (zu C 0 5 (C 0 5 + 1), 0, 0) := by
  have e : zmf (zups C) C (C 0 1) = (C, 0, 0) := zmf_none _ fun i hi ho => by
    have := (zearf_le C (zups C) (C 0 1)).2 i hi ho
    unfold zear at h
    unfold zwho
    rw [if_neg (by omega), if_neg (by omega)]
  unfold zmin
  rw [e]
theorem zear_clock (C : zC) (v : Nat) : zear (zu C 0 5 v) = zear C := by
  have e : ∀ f i, ¬ (f = 0 ∧ i = 5) → zu C 0 5 v f i = C f i := fun f i hn => zu_ne hn
  have eo : ∀ q, zOpen (zu C 0 5 v) q = zOpen C q := fun q => by unfold zOpen; rw [e _ _ (by omega)]
  have eu : zups (zu C 0 5 v) = zups C := by
    unfold zups zUp zof
    rw [e 0 0 (by decide), e 0 1 (by decide)]
    refine bm_congr fun b hb => ?_
    have : (bm (C 0 1) fun q => zOpen (zu C 0 5 v) q && zin (zu C 0 5 v) q b) = bm (C 0 1) fun q => zOpen C q && zin C q b := bm_congr fun q hq => by
      rw [eo]
      unfold zin
      rw [e _ _ (by omega), e _ _ (by omega)]
    rw [this]
  have ed : ∀ b q up, zdue (zu C 0 5 v) b q up = zdue C b q up := fun b q up => zdue_congr5 (fun f i h9 h5 h0 => e f i (fun hh => h0 (by rw [hh.1, hh.2]))) b q up
  have key : ∀ n, zearf (zu C 0 5 v) (zups C) n = zearf C (zups C) n := by
    intro n
    induction n with
    | zero => rfl
    | succ n ih =>
      rw [zearf_s, zearf_s, ih, eo, ed, ed, e 6 n (by omega), e 7 n (by omega)]
  unfold zear
  rw [eu, e 0 1 (by decide)]
  exact key _
theorem zmins_s (n : Nat) (C : zC) : zmins (n + 1) C = ((zmin (zmins n C).1).1, (zmins n C).2 + (zmin (zmins n C).1).2.1) := rfl
theorem zskip {C : zC} : ∀ k : Nat, (C 0 5 : Int) + k ≤ zear C → zmins k C = (zu C 0 5 (C 0 5 + k), 0)
  | 0, _ => by
    show (C, 0) = _
    rw [Nat.add_zero, zu_self]
  | k + 1, h => by
    have ih := zskip (C := C) k (by omega)
    rw [zmins_s, ih]
    dsimp only
    rw [zmin_none (by rw [zear_clock, zu_eq]; omega), zu_zu, zu_eq]
    rfl
theorem zmins_add (m : Nat) (C : zC) : ∀ n, zmins (m + n) C = ((zmins n (zit m C)).1, (zmins m C).2 + (zmins n (zit m C)).2)
  | 0 => rfl
  | n + 1 => by
    have ih := zmins_add m C n
    rw [← Nat.add_assoc, zmins_s, ih, zmins_s]
    dsimp only
    rw [Nat.add_assoc]
theorem zit_add (m n : Nat) (C : zC) : zit (m + n) C = zit n (zit m C) := by
  unfold zit
  rw [zmins_add]
  rfl
theorem zcount_upd {p p' : Nat → Bool} {q : Nat} (hq : p q = true) (hq' : p' q = false) (h : ∀ i, i ≠ q → p' i = p i) : ∀ n, q < n → zcount p' n + 1 = zcount p n
  | 0, h0 => absurd h0 (Nat.not_lt_zero _)
  | n + 1, hn => by
    simp only [zcount]
    by_cases e : q = n
    · subst e
      rw [hq, hq', zcount_cg q (p := p') (p' := p) (fun i hi => h i (by omega))]
      simp
    · have := zcount_upd hq hq' h n (by omega)
      rw [h n (by omega)]
      omega
theorem zmf_cnt (C : zC) (up : Nat) : ∀ q, q ≤ C 0 1 → zcount (zOpen (zmf up C q).1) (C 0 1) + (zmf up C q).2.1 = zcount (zOpen C) (C 0 1)
  | 0, _ => rfl
  | q + 1, hq => by
    have ih := zmf_cnt C up q (by omega)
    rw [zmf_s]
    by_cases g : zOpen (zmf up C q).1 q = true ∧ zwho (zmf up C q).1 up q ≠ 0
    · rw [if_pos g]
      dsimp only
      have := zcount_upd (p := zOpen (zmf up C q).1) (p' := zOpen (zend (zmf up C q).1 q (zwho (zmf up C q).1 up q))) g.1 (by unfold zOpen; rw [zend_9, if_pos rfl]; exact decide_eq_false g.2) (fun i hi => by unfold zOpen; rw [zend_9, if_neg hi]) (C 0 1) (by omega)
      omega
    · rw [if_neg g]
      exact ih
theorem zmins_cnt (C : zC) : ∀ n, zcount (zOpen (zit n C)) (C 0 1) + (zmins n C).2 = zcount (zOpen C) (C 0 1)
  | 0 => rfl
  | n + 1 => by
    have ih := zmins_cnt C n
    have e1 : (zit n C) 0 1 = C 0 1 := zit_q _ _ _ (by decide) (by decide) (by decide) n
    have := zmf_cnt (zit n C) (zups (zit n C)) (C 0 1) (by omega)
    rw [e1] at this
    have ez : zcount (zOpen (zit (n + 1) C)) (C 0 1) = zcount (zOpen (zmf (zups (zit n C)) (zit n C) (C 0 1)).1) (C 0 1) := by
      refine zcount_cg _ fun i hi => ?_
      have e9 : zit (n + 1) C 9 i = (zmf (zups (zit n C)) (zit n C) (C 0 1)).1 9 i := by
        rw [zit_s]
        show zu (zmf (zups (zit n C)) (zit n C) (zit n C 0 1)).1 0 5 (zit n C 0 5 + 1) 9 i = _
        rw [zu_ne (by omega), e1]
      unfold zOpen
      rw [e9]
    rw [ez, zmins_s]
    have e2 : (zmin (zmins n C).1).2.1 = (zmf (zups (zit n C)) (zit n C) (C 0 1)).2.1 := by
      show (zmf (zups (zit n C)) (zit n C) (zit n C 0 1)).2.1 = _
      rw [e1]
    dsimp only
    rw [e2]
    omega
theorem zmf_some (C : zC) (up : Nat) : ∀ q, (∃ i, i < q ∧ zOpen C i = true ∧ zwho C up i ≠ 0) → 1 ≤ (zmf up C q).2.1
  | 0, h => by obtain ⟨i, h, -⟩ := h; exact absurd h (Nat.not_lt_zero _)
  | q + 1, h => by
    rw [zmf_s]
    by_cases g : zOpen (zmf up C q).1 q = true ∧ zwho (zmf up C q).1 up q ≠ 0
    · rw [if_pos g]
      dsimp only
      omega
    · rw [if_neg g]
      obtain ⟨i, h1, h2, h3⟩ := h
      by_cases e : i = q
      · subst e
        refine absurd ⟨?_, ?_⟩ g
        · unfold zOpen; rw [zmf_9 _ _ _ _ (Nat.le_refl _)]; exact h2
        · rw [zwho_congr (fun f j h9 h5 => zmf_q C up f j h9 h5 i)]; exact h3
      · exact zmf_some C up q ⟨i, by omega, h2, h3⟩
theorem zmin_some {C : zC} (h : zear C ≤ (C 0 5 : Int)) (hm : C 0 5 ≤ 100000) : 1 ≤ (zmin C).2.1 := by
  refine zmf_some C (zups C) (C 0 1) ?_
  unfold zear at h
  rcases zearf_ex C (zups C) (C 0 1) with e | ⟨q, h1, h2, h3⟩
  · omega
  · refine ⟨q, h1, h2, ?_⟩
    unfold zwho
    rcases h3 with h3 | h3
    · rw [if_pos (show zdue C (C 6 q) q (zups C) ≤ (C 0 5 : Int) by omega)]; omega
    · rw [if_pos (show zdue C (C 7 q) q (zups C) ≤ (C 0 5 : Int) by omega)]; omega
theorem zear_none {C : zC} (h : zcount (zOpen C) (C 0 1) = 0) : zear C = 1000000 := by
  rcases zearf_ex C (zups C) (C 0 1) with e | ⟨q, h1, h2, -⟩
  · exact e
  · exfalso
    have : ∀ n, q < n → 0 < zcount (zOpen C) n := by
      intro n
      induction n with
      | zero => intro hh; omega
      | succ n ih =>
        intro hh
        simp only [zcount]
        by_cases e : q = n
        · subst e; rw [h2]; simp
        · have := ih (by omega); omega
    have := this _ h1
    omega
theorem qmin_i {a b : Int} (ha : -2147483648 ≤ a) (ha2 : a < 2147483648) (hb : -2147483648 ≤ b) (hb2 : b < 2147483648) : qmin (iI a) (iI b) = iI (min a b) := by
  unfold qmin
  have g : (iI b < iI a) = (b < a) := by rw [qlt, iI_toInt hb hb2, iI_toInt ha ha2]
  by_cases h : iI b < iI a
  · rw [if_pos h]
    rw [g] at h
    rw [show min a b = b by omega]
  · rw [if_neg h]
    rw [g] at h
    rw [show min a b = a by omega]
theorem qmax_i {a b : Int} (ha : -2147483648 ≤ a) (ha2 : a < 2147483648) (hb : -2147483648 ≤ b) (hb2 : b < 2147483648) : qmax (iI a) (iI b) = iI (max a b) := by
  unfold qmax
  have g : (iI a < iI b) = (a < b) := by rw [qlt, iI_toInt hb hb2, iI_toInt ha ha2]
  by_cases h : iI a < iI b
  · rw [if_pos h]
    rw [g] at h
    rw [show max a b = b by omega]
  · rw [if_neg h]
    rw [g] at h
    rw [show max a b = a by omega]
theorem zearf_bd {C : zC} (hw : zW C) (up : Nat) : ∀ n, n ≤ C 0 1 → -72 ≤ zearf C up n ∧ zearf C up n ≤ 1000000
  | 0, _ => by show -72 ≤ (1000000 : Int) ∧ (1000000 : Int) ≤ 1000000; omega
  | n + 1, h => by
    have ih := zearf_bd hw up n (by omega)
    have g := hw.2.2.2.2.2.2.2.2.2 n (by omega)
    have d6 := zdue_bd hw (up := up) g.1 (show n < C 0 1 by omega)
    have d7 := zdue_bd hw (up := up) g.2.1 (show n < C 0 1 by omega)
    rw [zearf_s]
    split <;> omega
set_option maxRecDepth 20000 in
theorem x_earliest {σ : qSg} {r : Nat} {C : zC} (hr : zCb r) (h : zX σ r C) (hw : zW C) : qFI 3 27 [qr r] σ (iI (zear C)) := by
  obtain ⟨wb, wq, ww1, ww2, wh1, wh2, wo, wm, wB, wQ⟩ := id hw
  have hup := zups_lt hw
  refine qCI.of [some (qr r), none, none, none, none] ok_27 (Nat.le_of_ble_eq_true rfl) rfl ?_
  refine qV.go 30 [10] ok_27 ?_
  simp only [qW_nop, qW_iconst, qW_ldc, qW_iloadn, qW_iload, qW_aloadn, qW_istoren, qW_istore, qW_iinc, qW_ifne, qW_icge, qW_goto, qW_getf, qW_iald, qW_cv1_0, qW_cv4_0, qW_mmin, qW_iret0, Nat.reduceAdd, Nat.reduceMul, Nat.reduceBEq, Nat.reduceEqDiff, Nat.reduceLT, Nat.reduceLeDiff, Nat.zero_le, nI_add, nI_mul, nI_cl, qin_eq, qofI, qlg_0, qlg_s, qls_i0, qls_r0, qls_l0, qls_1, qls_2, qkl_i, qkl_r, qkl_l, qkl_n, qIsI_i, qIsL_l, qIsR_r, qint_i, qil_i, qil_r, qil_l, qf4_0, qf4_1, qf4_2, qf4_3, qf2_0, qf2_1, qcs_n, qcs_i, qcs_r, qcs_l, qst_n, qst_c, qJ_0, qJ_st, qJ_go, qfl_I, qfl_Z, qfl_L, qfl_R, qrI_i, qrL_l, qrV_v, qRcv_0, qRcv_s, eq_self, true_and, and_true, true_or, or_true, false_and, and_false, false_or, or_false, ite_true, if_true, if_false, Bool.true_or, Bool.false_or, Bool.or_false, beq_self_eq_true, Bool.false_eq_true, bX1_earliestDue_0, bX1_earliestDue_10, bX1_earliestDue_63, bX1_earliestDue_69, kX1_earliestDue_0, kX1_earliestDue_10, kX1_earliestDue_63, kX1_earliestDue_69, zCb_k hr, zCb_6 hr, zCb_7 hr, zCb_8 hr, zCb_9 hr, zCb_10 hr, zCb_11 hr, zCb_12 hr, zCb_13 hr, zCb_14 hr, zCb_15 hr, zCb_16 hr, zCb_a1 hr, zCb_a2 hr, zCb_a3 hr, zCb_a4 hr, zCb_a5 hr, zCb_a6 hr, zCb_a7 hr, zCb_a8 hr, zCb_a9 hr, zCb_a10 hr, zCb_a11 hr]
  refine qBI.fn (x_upSet hr h.1 hw) (by decide) ?_
  refine qdown (n := C 0 1) (P := fun q => ∀ l4 : Option qPV, qV 27 3 (.inl fun v σ' => v = iI (zear C) ∧ σ' = σ) 10 [some (qr r), some (qi (nI (zups C))), some (qi (iI (zearf C (zups C) q))), some (qi (nI q)), l4] [] σ) (fun q hq ih => ?_) 0 (Nat.zero_le _) none
  intro l4
  refine qV.go 30 [10, 63] ok_27 ?_
  simp only [qW_nop, qW_iconst, qW_ldc, qW_iloadn, qW_iload, qW_aloadn, qW_istoren, qW_istore, qW_iinc, qW_ifne, qW_icge, qW_goto, qW_getf, qW_iald, qW_cv1_0, qW_cv4_0, qW_mmin, qW_iret0, Nat.reduceAdd, Nat.reduceMul, Nat.reduceBEq, Nat.reduceEqDiff, Nat.reduceLT, Nat.reduceLeDiff, Nat.zero_le, nI_add, nI_mul, nI_cl, qin_eq, qofI, qlg_0, qlg_s, qls_i0, qls_r0, qls_l0, qls_1, qls_2, qkl_i, qkl_r, qkl_l, qkl_n, qIsI_i, qIsL_l, qIsR_r, qint_i, qil_i, qil_r, qil_l, qf4_0, qf4_1, qf4_2, qf4_3, qf2_0, qf2_1, qcs_n, qcs_i, qcs_r, qcs_l, qst_n, qst_c, qJ_0, qJ_st, qJ_go, qfl_I, qfl_Z, qfl_L, qfl_R, qrI_i, qrL_l, qrV_v, qRcv_0, qRcv_s, eq_self, true_and, and_true, true_or, or_true, false_and, and_false, false_or, or_false, ite_true, if_true, if_false, Bool.true_or, Bool.false_or, Bool.or_false, beq_self_eq_true, Bool.false_eq_true, bX1_earliestDue_0, bX1_earliestDue_10, bX1_earliestDue_63, bX1_earliestDue_69, kX1_earliestDue_0, kX1_earliestDue_10, kX1_earliestDue_63, kX1_earliestDue_69, zCb_k hr, zCb_6 hr, zCb_7 hr, zCb_8 hr, zCb_9 hr, zCb_10 hr, zCb_11 hr, zCb_12 hr, zCb_13 hr, zCb_14 hr, zCb_15 hr, zCb_16 hr, zCb_a1 hr, zCb_a2 hr, zCb_a3 hr, zCb_a4 hr, zCb_a5 hr, zCb_a6 hr, zCb_a7 hr, zCb_a8 hr, zCb_a9 hr, zCb_a10 hr, zCb_a11 hr]
  rw [h.1.q]
  simp (disch := omega) only [nI_leI, nI_ltI, nI_eq, nI_cl, qin_eq, nI_add, nI_mul, qb_z, qb_t, qb_f, nI_ne0', Nat.reduceAdd, Bool.false_eq_true, if_false, if_true, true_and, and_true, Nat.reduceEqDiff, not_true_eq_false, not_false_eq_true, false_implies, true_implies, ite_true, ite_false]
  refine ⟨fun g => ?_, fun g => ?_⟩
  · have : q = C 0 1 := by omega
    subst this
    rfl
  · have hq1 : q < C 0 1 := by omega
    have g9 := wQ q hq1
    have st : ∀ v l4, v = iI (zearf C (zups C) (q + 1)) → qV 27 3 (.inl fun v σ' => v = iI (zear C) ∧ σ' = σ) 63 [some (qr r), some (qi (nI (zups C))), some (qi v), some (qi (nI q)), l4] [] σ := by
      intro v l4 hv
      subst hv
      refine qV.go 30 [10] ok_27 ?_
      simp only [qW_nop, qW_iconst, qW_ldc, qW_iloadn, qW_iload, qW_aloadn, qW_istoren, qW_istore, qW_iinc, qW_ifne, qW_icge, qW_goto, qW_getf, qW_iald, qW_cv1_0, qW_cv4_0, qW_mmin, qW_iret0, Nat.reduceAdd, Nat.reduceMul, Nat.reduceBEq, Nat.reduceEqDiff, Nat.reduceLT, Nat.reduceLeDiff, Nat.zero_le, nI_add, nI_mul, nI_cl, qin_eq, qofI, qlg_0, qlg_s, qls_i0, qls_r0, qls_l0, qls_1, qls_2, qkl_i, qkl_r, qkl_l, qkl_n, qIsI_i, qIsL_l, qIsR_r, qint_i, qil_i, qil_r, qil_l, qf4_0, qf4_1, qf4_2, qf4_3, qf2_0, qf2_1, qcs_n, qcs_i, qcs_r, qcs_l, qst_n, qst_c, qJ_0, qJ_st, qJ_go, qfl_I, qfl_Z, qfl_L, qfl_R, qrI_i, qrL_l, qrV_v, qRcv_0, qRcv_s, eq_self, true_and, and_true, true_or, or_true, false_and, and_false, false_or, or_false, ite_true, if_true, if_false, Bool.true_or, Bool.false_or, Bool.or_false, beq_self_eq_true, Bool.false_eq_true, bX1_earliestDue_0, bX1_earliestDue_10, bX1_earliestDue_63, bX1_earliestDue_69, kX1_earliestDue_0, kX1_earliestDue_10, kX1_earliestDue_63, kX1_earliestDue_69, zCb_k hr, zCb_6 hr, zCb_7 hr, zCb_8 hr, zCb_9 hr, zCb_10 hr, zCb_11 hr, zCb_12 hr, zCb_13 hr, zCb_14 hr, zCb_15 hr, zCb_16 hr, zCb_a1 hr, zCb_a2 hr, zCb_a3 hr, zCb_a4 hr, zCb_a5 hr, zCb_a6 hr, zCb_a7 hr, zCb_a8 hr, zCb_a9 hr, zCb_a10 hr, zCb_a11 hr]
      exact ih hq1 l4
    rw [h.1.en hq1, h.1.fi hq1]
    rw [zearf_s] at st
    simp (disch := omega) only [nI_leI, nI_ltI, nI_eq, nI_cl, qin_eq, nI_add, nI_mul, qb_z, qb_t, qb_f, nI_ne0', Nat.reduceAdd, Bool.false_eq_true, if_false, if_true, true_and, and_true, Nat.reduceEqDiff, not_true_eq_false, not_false_eq_true, false_implies, true_implies, ite_true, ite_false]
    refine ⟨fun h9 => st _ _ ?_, fun h9 => ?_⟩
    · rw [if_neg (by unfold zOpen; rw [decide_eq_false h9]; decide)]
    · have d6 := zdue_bd hw (up := zups C) g9.1 hq1
      have d7 := zdue_bd hw (up := zups C) g9.2.1 hq1
      have b := zearf_bd hw (zups C) q hq
      refine qBI.fn (x_due hr h hw g9.1 hq1 (by omega)) (by decide) ?_
      rw [h.1.se hq1]
      refine qBI.fn (x_due hr h hw g9.2.1 hq1 (by omega)) (by decide) ?_
      rw [qmin_i (by omega) (by omega) (by omega) (by omega), qmin_i (by omega) (by omega) (by omega) (by omega)]
      exact st _ _ (by rw [if_pos (by unfold zOpen; rw [decide_eq_true h9])])
set_option maxRecDepth 20000 in
theorem x_pass {σ : qSg} {r : Nat} {C : zC} (hr : zCb r) (h : zX σ r C) (hw : zW C) {n : Nat} (hn : C 0 5 + n ≤ 99000) : qCI 4 30 [qr r, qi (nI n)] σ (fun v σ' => v = nI (zmins n C).2 ∧ zX σ' r (zit n C) ∧ zF (zXf r) σ σ') := by
  obtain ⟨wb, wq, ww1, ww2, wh1, wh2, wo, wm, wB, wQ⟩ := id hw
  have ho := zopens_lt hw
  have hc := zmins_cnt C n
  have hpo : zpop (zopens C) = zcount (zOpen C) (C 0 1) := zpop_bm (by omega)
  have hcl : zcount (zOpen C) (C 0 1) ≤ C 0 1 := zcount_le _ _
  refine qCI.of [some (qr r), some (qi (nI n)), none, none, none, none] ok_30 (Nat.le_of_ble_eq_true rfl) rfl ?_
  refine qV.go 30 [18] ok_30 ?_
  simp only [qW_nop, qW_iconst, qW_bipush, qW_iloadn, qW_iload, qW_aloadn, qW_istoren, qW_istore, qW_iinc, qW_iadd, qW_isub, qW_pop, qW_iclt, qW_icge, qW_goto, qW_getf, qW_cs1_0, qW_cv1_0, qW_mmax, qW_iret0, qW_putf0, Nat.reduceAdd, Nat.reduceMul, Nat.reduceBEq, Nat.reduceEqDiff, Nat.reduceLT, Nat.reduceLeDiff, Nat.zero_le, nI_add, nI_mul, nI_cl, qin_eq, qofI, qlg_0, qlg_s, qls_i0, qls_r0, qls_l0, qls_1, qls_2, qkl_i, qkl_r, qkl_l, qkl_n, qIsI_i, qIsL_l, qIsR_r, qint_i, qil_i, qil_r, qil_l, qf4_0, qf4_1, qf4_2, qf4_3, qf2_0, qf2_1, qcs_n, qcs_i, qcs_r, qcs_l, qst_n, qst_c, qJ_0, qJ_st, qJ_go, qfl_I, qfl_Z, qfl_L, qfl_R, qrI_i, qrL_l, qrV_v, qRcv_0, qRcv_s, eq_self, true_and, and_true, true_or, or_true, false_and, and_false, false_or, or_false, ite_true, if_true, if_false, Bool.true_or, Bool.false_or, Bool.or_false, beq_self_eq_true, Bool.false_eq_true, bX1_pass_0, bX1_pass_18, bX1_pass_47, bX1_pass_64, kX1_pass_0, kX1_pass_18, kX1_pass_47, kX1_pass_64, zCb_k hr, zCb_6 hr, zCb_7 hr, zCb_8 hr, zCb_9 hr, zCb_10 hr, zCb_11 hr, zCb_12 hr, zCb_13 hr, zCb_14 hr, zCb_15 hr, zCb_16 hr, zCb_a1 hr, zCb_a2 hr, zCb_a3 hr, zCb_a4 hr, zCb_a5 hr, zCb_a6 hr, zCb_a7 hr, zCb_a8 hr, zCb_a9 hr, zCb_a10 hr, zCb_a11 hr]
  rw [h.1.m]
  refine qBI.fn (x_openSet hr h.1 hw) (by decide) (qBI.fn (x_bits σ (by omega)) (by decide) ?_)
  simp only [nI_add]
  have fin : ∀ σ1 k (l4 l5 : Option qPV), zX σ1 r (zit k C) → zF (zXf r) σ σ1 → k ≤ n → (k = n ∨ ((C 0 5 + n : Nat) : Int) ≤ zear (zit k C)) → qV 30 4 (.inl fun v σ' => v = nI (zmins n C).2 ∧ zX σ' r (zit n C) ∧ zF (zXf r) σ σ') 64 [some (qr r), some (qi (nI n)), some (qi (nI (C 0 5 + n))), some (qi (nI (zpop (zopens C)))), l4, l5] [] σ1 := by
    intro σ1 k l4 l5 a1 f1 hk hh
    have ek : zit n C = zu (zit k C) 0 5 (C 0 5 + n) := by
      have en : zit n C = zit (n - k) (zit k C) := by rw [← zit_add, Nat.add_sub_cancel' hk]
      rw [en]
      have ec := zit_clock C k
      rcases hh with rfl | hh
      · rw [Nat.sub_self, ← ec]
        exact zu_self.symm
      · have := zskip (C := zit k C) (n - k) (by omega)
        unfold zit at this ⊢
        rw [this, show (zmins k C).1 0 5 = C 0 5 + k from ec, show C 0 5 + k + (n - k) = C 0 5 + n by omega]
    have a2 : zX (qwi σ1 r 3 (nI (C 0 5 + n))) r (zit n C) := ek ▸ a1.um
    have wn := zit_W hw n (by omega)
    have on := zopens_lt wn
    have f2 : zF (zXf r) σ (qwi σ1 r 3 (nI (C 0 5 + n))) := f1.tr (zF.wi ⟨by omega, by omega⟩)
    refine qV.go 30 [9999] ok_30 ?_
    simp only [qW_nop, qW_iconst, qW_bipush, qW_iloadn, qW_iload, qW_aloadn, qW_istoren, qW_istore, qW_iinc, qW_iadd, qW_isub, qW_pop, qW_iclt, qW_icge, qW_goto, qW_getf, qW_cs1_0, qW_cv1_0, qW_mmax, qW_iret0, qW_putf0, Nat.reduceAdd, Nat.reduceMul, Nat.reduceBEq, Nat.reduceEqDiff, Nat.reduceLT, Nat.reduceLeDiff, Nat.zero_le, nI_add, nI_mul, nI_cl, qin_eq, qofI, qlg_0, qlg_s, qls_i0, qls_r0, qls_l0, qls_1, qls_2, qkl_i, qkl_r, qkl_l, qkl_n, qIsI_i, qIsL_l, qIsR_r, qint_i, qil_i, qil_r, qil_l, qf4_0, qf4_1, qf4_2, qf4_3, qf2_0, qf2_1, qcs_n, qcs_i, qcs_r, qcs_l, qst_n, qst_c, qJ_0, qJ_st, qJ_go, qfl_I, qfl_Z, qfl_L, qfl_R, qrI_i, qrL_l, qrV_v, qRcv_0, qRcv_s, eq_self, true_and, and_true, true_or, or_true, false_and, and_false, false_or, or_false, ite_true, if_true, if_false, Bool.true_or, Bool.false_or, Bool.or_false, beq_self_eq_true, Bool.false_eq_true, bX1_pass_0, bX1_pass_18, bX1_pass_47, bX1_pass_64, kX1_pass_0, kX1_pass_18, kX1_pass_47, kX1_pass_64, zCb_k hr, zCb_6 hr, zCb_7 hr, zCb_8 hr, zCb_9 hr, zCb_10 hr, zCb_11 hr, zCb_12 hr, zCb_13 hr, zCb_14 hr, zCb_15 hr, zCb_16 hr, zCb_a1 hr, zCb_a2 hr, zCb_a3 hr, zCb_a4 hr, zCb_a5 hr, zCb_a6 hr, zCb_a7 hr, zCb_a8 hr, zCb_a9 hr, zCb_a10 hr, zCb_a11 hr]
    refine qBI.fn (x_openSet hr a2.1 wn) (by decide) (qBI.fn (x_bits _ (by omega)) (by decide) ?_)
    have e1 : (zit n C) 0 1 = C 0 1 := zit_q _ _ _ (by decide) (by decide) (by decide) n
    have hp2 : zpop (zopens (zit n C)) = zcount (zOpen (zit n C)) (C 0 1) := by
      unfold zopens
      rw [zpop_bm (by omega), e1]
    rw [hp2, hpo, nI_sub (by omega)]
    exact ⟨congrArg nI (by omega), a2, f2⟩
  refine qdown (n := 10) (P := fun i => ∀ σ1 k (l5 : Option qPV), k ≤ n → zX σ1 r (zit k C) → zF (zXf r) σ σ1 → zcount (zOpen (zit k C)) (C 0 1) + i ≤ zcount (zOpen C) (C 0 1) → qV 30 4 (.inl fun v σ' => v = nI (zmins n C).2 ∧ zX σ' r (zit n C) ∧ zF (zXf r) σ σ') 18 [some (qr r), some (qi (nI n)), some (qi (nI (C 0 5 + n))), some (qi (nI (zpop (zopens C)))), some (qi (nI i)), l5] [] σ1) (fun i hi ih => ?_) 0 (Nat.zero_le _) σ 0 none (Nat.zero_le _) h zF.rf (Nat.le_refl _)
  intro σ1 k l5 hk a1 f1 c1
  have wk := zit_W hw k (by omega)
  have ek := zit_clock C k
  have e1 : (zit k C) 0 1 = C 0 1 := zit_q _ _ _ (by decide) (by decide) (by decide) k
  have zb := zearf_bd wk (zups (zit k C)) (zit k C 0 1) (Nat.le_refl _)
  have zb : -72 ≤ zear (zit k C) ∧ zear (zit k C) ≤ 1000000 := zb
  refine qV.go 30 [18, 64] ok_30 ?_
  simp only [qW_nop, qW_iconst, qW_bipush, qW_iloadn, qW_iload, qW_aloadn, qW_istoren, qW_istore, qW_iinc, qW_iadd, qW_isub, qW_pop, qW_iclt, qW_icge, qW_goto, qW_getf, qW_cs1_0, qW_cv1_0, qW_mmax, qW_iret0, qW_putf0, Nat.reduceAdd, Nat.reduceMul, Nat.reduceBEq, Nat.reduceEqDiff, Nat.reduceLT, Nat.reduceLeDiff, Nat.zero_le, nI_add, nI_mul, nI_cl, qin_eq, qofI, qlg_0, qlg_s, qls_i0, qls_r0, qls_l0, qls_1, qls_2, qkl_i, qkl_r, qkl_l, qkl_n, qIsI_i, qIsL_l, qIsR_r, qint_i, qil_i, qil_r, qil_l, qf4_0, qf4_1, qf4_2, qf4_3, qf2_0, qf2_1, qcs_n, qcs_i, qcs_r, qcs_l, qst_n, qst_c, qJ_0, qJ_st, qJ_go, qfl_I, qfl_Z, qfl_L, qfl_R, qrI_i, qrL_l, qrV_v, qRcv_0, qRcv_s, eq_self, true_and, and_true, true_or, or_true, false_and, and_false, false_or, or_false, ite_true, if_true, if_false, Bool.true_or, Bool.false_or, Bool.or_false, beq_self_eq_true, Bool.false_eq_true, bX1_pass_0, bX1_pass_18, bX1_pass_47, bX1_pass_64, kX1_pass_0, kX1_pass_18, kX1_pass_47, kX1_pass_64, zCb_k hr, zCb_6 hr, zCb_7 hr, zCb_8 hr, zCb_9 hr, zCb_10 hr, zCb_11 hr, zCb_12 hr, zCb_13 hr, zCb_14 hr, zCb_15 hr, zCb_16 hr, zCb_a1 hr, zCb_a2 hr, zCb_a3 hr, zCb_a4 hr, zCb_a5 hr, zCb_a6 hr, zCb_a7 hr, zCb_a8 hr, zCb_a9 hr, zCb_a10 hr, zCb_a11 hr]
  simp (disch := omega) only [nI_leI, nI_ltI, nI_eq, nI_cl, qin_eq, nI_add, nI_mul, qb_z, qb_t, qb_f, nI_ne0', Nat.reduceAdd, Bool.false_eq_true, if_false, if_true, true_and, and_true, Nat.reduceEqDiff, not_true_eq_false, not_false_eq_true, false_implies, true_implies, ite_true, ite_false]
  refine ⟨fun g => ?_, fun g => ?_⟩
  · refine fin σ1 k _ _ a1 f1 hk (Or.inr ?_)
    rw [zear_none (by rw [e1]; omega)]
    omega
  · refine qBI.fn (x_earliest hr a1 wk) (by decide) ?_
    rw [a1.1.m, iI_nat, qmax_i (by omega) (by omega) (by omega) (by omega)]
    obtain ⟨M, hM⟩ : ∃ M : Nat, max ((zit k C 0 5 : Nat) : Int) (zear (zit k C)) = M := ⟨(max ((zit k C 0 5 : Nat) : Int) (zear (zit k C))).toNat, by omega⟩
    have hM2 : M ≤ 1000000 := by omega
    rw [hM, ← iI_nat]
    simp (disch := omega) only [nI_leI, nI_ltI, nI_eq, nI_cl, qin_eq, nI_add, nI_mul, qb_z, qb_t, qb_f, nI_ne0', Nat.reduceAdd, Bool.false_eq_true, if_false, if_true, true_and, and_true, Nat.reduceEqDiff, not_true_eq_false, not_false_eq_true, false_implies, true_implies, ite_true, ite_false]
    refine ⟨fun g2 => ?_, fun g2 => fin σ1 k _ _ a1 f1 hk (by omega)⟩
    have eD : zu (zit k C) 0 5 M = zit (k + (M - (C 0 5 + k))) C := by
      rw [zit_add]
      by_cases e : M = C 0 5 + k
      · rw [e, Nat.sub_self, ← ek]
        exact zu_self
      · have := zskip (C := zit k C) (M - (C 0 5 + k)) (by omega)
        have e5 : (zit k C) 0 5 + (M - (C 0 5 + k)) = M := by omega
        rw [e5] at this
        show _ = (zmins (M - (C 0 5 + k)) (zit k C)).1
        rw [this]
    have a2 : zX (qwi σ1 r 3 (nI M)) r (zit (k + (M - (C 0 5 + k))) C) := eD ▸ a1.um
    have ezD : zear (zit (k + (M - (C 0 5 + k))) C) = zear (zit k C) := by rw [← eD, zear_clock]
    have e5D : (zit (k + (M - (C 0 5 + k))) C) 0 5 = M := by rw [zit_clock]; omega
    have c2 := zmins_cnt C k
    have c3 := zmins_cnt C (k + (M - (C 0 5 + k)) + 1)
    have c4 : (zmins (k + (M - (C 0 5 + k))) C).2 = (zmins k C).2 + (zmins (M - (C 0 5 + k)) (zit k C)).2 := by rw [zmins_add]
    have c5 : (zmins (k + (M - (C 0 5 + k)) + 1) C).2 = (zmins (k + (M - (C 0 5 + k))) C).2 + (zmin (zit (k + (M - (C 0 5 + k))) C)).2.1 := rfl
    have c6 : 1 ≤ (zmin (zit (k + (M - (C 0 5 + k))) C)).2.1 := zmin_some (by omega) (by omega)
    refine qBI.of (x_minute hr a2 (zit_W hw _ (by omega)) (by omega)) (by decide) (fun v σ2 g3 => ?_)
    obtain ⟨-, b1, b2⟩ := g3
    exact ih (by omega) σ2 (k + (M - (C 0 5 + k)) + 1) _ (by omega) b1 ((f1.tr (zF.wi ⟨by omega, by omega⟩)).tr b2) (by omega)
