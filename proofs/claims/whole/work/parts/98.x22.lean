/-! games: what a quarrel's end is worth does not tell by whom; the class's order of deeds -/
/-- as far as minutes tell: who ended a quarrel, who yielded how often is left out -/
def zEq (C D : zC) : Prop := (∀ f i, f ≠ 9 → f ≠ 5 → D f i = C f i) ∧ ∀ q, q < C 0 1 → (D 9 q = 0 ↔ C 9 q = 0)
theorem zEq.rf {C : zC} : zEq C C := ⟨fun _ _ _ _ => rfl, fun _ _ => Iff.rfl⟩
theorem zEq.sy {C D : zC} (h : zEq C D) : zEq D C := ⟨fun f i a b => (h.1 f i a b).symm, fun q hq => (h.2 q (by rw [h.1 0 1 (by decide) (by decide)] at hq; exact hq)).symm⟩
theorem zEq.up {C D : zC} (h : zEq C D) (b : Nat) : zUp D b = zUp C b := by
  have e1 := h.1 0 1 (by decide) (by decide)
  have e6 := fun q => h.1 6 q (by decide) (by decide)
  have e7 := fun q => h.1 7 q (by decide) (by decide)
  have hz : ∀ q, zin D q b = zin C q b := fun q => by unfold zin; rw [e6, e7]
  apply Bool.eq_iff_iff.mpr
  rw [zUp_iff, zUp_iff]
  constructor
  · intro g q hq hb h0
    exact g q (by omega) (by rw [hz]; exact hb) ((h.2 q hq).mpr h0)
  · intro g q hq hb h0
    exact g q (by omega) (by rw [← hz]; exact hb) ((h.2 q (by omega)).mp h0)
theorem zEq.ups {C D : zC} (h : zEq C D) : zups D = zups C := by
  unfold zups
  rw [h.1 0 0 (by decide) (by decide)]
  exact bm_congr fun b _ => h.up b
theorem zEq.mn {C D : zC} (h : zEq C D) : zEq (zmin C).1 (zmin D).1 := by
  have e1 := h.1 0 1 (by decide) (by decide)
  refine ⟨fun f i a b => ?_, fun q hq => ?_⟩
  · by_cases e : (f, i) = (0, 5)
    · cases e
      rw [zmin_clock, zmin_clock, h.1 0 5 (by decide) (by decide)]
    · rw [zmin_q _ _ _ a b e, zmin_q _ _ _ a b e, h.1 f i a b]
  · rw [zmin_q _ _ _ (by decide) (by decide) (by decide)] at hq
    rw [zmin_9 _ _ hq, zmin_9 _ _ (by omega), h.ups, zwho_congr (C := C) (C' := D) (fun f i a b => h.1 f i a b)]
    have := h.2 q hq
    by_cases g : C 9 q = 0
    · rw [if_pos g, if_pos (this.mpr g)]
    · rw [if_neg g, if_neg (fun g2 => g (this.mp g2))]
      exact this
theorem zEq.it {C D : zC} (h : zEq C D) : ∀ n, zEq (zit n C) (zit n D)
  | 0 => h
  | n + 1 => (zEq.it h n).mn
theorem zlst_cg {p p' : Nat → Bool} (h : ∀ n, p n = p' n) : ∀ f n, zlst p f n = zlst p' f n
  | 0, _ => rfl
  | f + 1, n => by simp only [zlst, h, zlst_cg h f]
theorem zEq.brk {C D : zC} (h : zEq C D) : zbrk D = zbrk C := by
  unfold zbrk zupn
  rw [h.1 0 0 (by decide) (by decide)]
  exact zlst_cg (fun n => by rw [(h.it n).ups]) _ _
theorem zEq.deed {C D : zC} (h : zEq C D) (l q : Nat) : zEq (zdeed C l q) (zdeed D l q) := by
  have e1 := h.1 0 1 (by decide) (by decide)
  unfold zdeed
  rw [e1]
  split
  · exact h
  · split
    · refine ⟨fun f i a b => ?_, fun q' hq' => ?_⟩
      · rw [zu_ne (by omega), zu_ne (by omega)]; exact h.1 f i a b
      · rw [zu_ne (by omega)] at hq'
        by_cases e : q' = q
        · subst e
          rw [zu_eq, zu_eq]
        · rw [zu_ne (by omega), zu_ne (by omega)]; exact h.2 q' hq'
    · have e8 := h.1 8 q (by decide) (by decide)
      unfold zstir
      rw [e8]
      refine ⟨fun f i a b => ?_, fun q' hq' => ?_⟩
      · by_cases e : f = 8 ∧ i = q
        · obtain ⟨rfl, rfl⟩ := e
          rw [zu_eq, zu_eq]
        · rw [zu_ne (by omega), zu_ne (by omega)]; exact h.1 f i a b
      · rw [zu_ne (by omega)] at hq'
        rw [zu_ne (by omega), zu_ne (by omega)]; exact h.2 q' hq'
theorem zfold_cg {V V' : Nat → Nat} {ok ok' : Nat → Bool} {l : Nat} : ∀ n, (∀ q, q < n → V q = V' q) → (∀ q, q < n → ok q = ok' q) → zfold V ok l n = zfold V' ok' l n
  | 0, _, _ => rfl
  | n + 1, h, h' => by
    simp only [zfold, h n (by omega), h' n (by omega), zfold_cg n (fun q hq => h q (by omega)) (fun q hq => h' q (by omega))]
theorem zEq.ok {C D : zC} (h : zEq C D) {q : Nat} (hq : q ≤ C 0 1) : zdok D q = zdok C q := by
  have e1 := h.1 0 1 (by decide) (by decide)
  unfold zdok
  rw [e1]
  by_cases e : q = C 0 1
  · rw [decide_eq_true e, Bool.true_or, Bool.true_or]
  · rw [decide_eq_decide.mpr (h.2 q (by omega))]
theorem zEq.play : ∀ (f l : Nat) {C D : zC}, zEq C D → zplay f l D = zplay f l C
  | 0, _, _, _, h => h.brk
  | f + 1, l, C, D, h => by
    have e1 := h.1 0 1 (by decide) (by decide)
    simp only [zplay]
    rw [e1, zfold_cg (C 0 1 + 1) (fun q _ => zEq.play f (l + 1) (h.deed l q)) (fun q hq => h.ok (by omega))]
theorem zEq.e1 {C : zC} {q v w : Nat} (hv : v ≠ 0) (hw : w ≠ 0) : zEq (zu C 9 q v) (zu C 9 q w) := by
  refine ⟨fun f i a b => by rw [zu_ne (by omega), zu_ne (by omega)], fun q' hq' => ?_⟩
  by_cases e : q' = q
  · subst e
    rw [zu_eq, zu_eq]
    omega
  · rw [zu_ne (by omega), zu_ne (by omega)]
/-- of two the better for whose turn it is -/
def zop (l x y : Nat) : Nat := if l % 2 = 0 then min x y else max x y
theorem zop_c (l x y : Nat) : zop l x y = zop l y x := by unfold zop; split <;> omega
theorem zop_a (l x y z : Nat) : zop l (zop l x y) z = zop l (zop l x z) y := by unfold zop; split <;> omega
def zcf (V : Nat → Nat) (ok : Nat → Bool) (l x : Nat) : Nat → Nat
  | 0 => x
  | q + 1 => if ok q = true then zop l (zcf V ok l x q) (V q) else zcf V ok l x q
theorem zst_2 (l v q : Nat) (s : Nat × Nat) : ∃ t, zst l v q (some s) = some t ∧ t.2 = zop l s.2 v := by
  simp only [zst, zop]
  split
  · refine ⟨_, rfl, ?_⟩
    try dsimp only
    split <;> omega
  · refine ⟨_, rfl, ?_⟩
    try dsimp only
    split <;> omega
theorem zcf_is (V : Nat → Nat) (ok : Nat → Bool) (l x : Nat) : ∀ n, zcf V ok l x n = match zfold V ok l n with
    | none => x
    | some s => zop l s.2 x
  | 0 => rfl
  | n + 1 => by
    have ih := zcf_is V ok l x n
    simp only [zcf, zfold]
    by_cases h : ok n = true
    · rw [if_pos h, if_pos h, ih]
      cases e : zfold V ok l n with
      | none => simp only [zst]; exact zop_c _ _ _
      | some s =>
        obtain ⟨t, h1, h2⟩ := zst_2 l (V n) n s
        rw [h1]
        dsimp only
        rw [h2]
        exact zop_a _ _ _ _
    · rw [if_neg h, if_neg h, ih]
theorem zdok_n (C : zC) : zdok C (C 0 1) = true := by simp [zdok]
theorem zdeed_n (C : zC) (l : Nat) : zdeed C l (C 0 1) = C := if_pos rfl
theorem zplay_cf (f l : Nat) (C : zC) : zplay (f + 1) l C = zcf (fun q => zplay f (l + 1) (zdeed C l q)) (zdok C) l (zplay f (l + 1) C) (C 0 1) := by
  simp only [zplay]
  rw [zfold, if_pos (zdok_n C), zdeed_n, zcf_is]
  cases e : zfold (fun q => zplay f (l + 1) (zdeed C l q)) (zdok C) l (C 0 1) with
  | none => rfl
  | some s =>
    obtain ⟨t, h1, h2⟩ := zst_2 l (zplay f (l + 1) C) (C 0 1) s
    rw [h1]
    exact h2
theorem zcf_bd {V : Nat → Nat} {ok : Nat → Bool} {l x : Nat} (hx : x ≤ 130) : ∀ n, (∀ q, q < n → V q ≤ 130) → zcf V ok l x n ≤ 130
  | 0, _ => hx
  | n + 1, h => by
    have ih := zcf_bd (V := V) (ok := ok) (l := l) hx n (fun q hq => h q (by omega))
    have := h n (by omega)
    simp only [zcf]
    split
    · unfold zop; split <;> omega
    · exact ih
/-! the class: games -/
def zPgm (a : Nat) (_ : Nat) : Prop := 13 ≤ a ∧ a ≤ 39
def zR27 (a : Nat) (_ : Nat) : Prop := a = 27
def zGm (f l : Nat) (C : zC) (σ : qSg) (v : Int32) (σ' : qSg) : Prop := v = nI (zplay f l C) ∧ zX σ' 13 C ∧ zG zPgm zR27 σ σ'
theorem zback8 {C : zC} {q v : Nat} : zu (zu (zu C 9 q v) 8 q (C 8 q)) 9 q (C 9 q) = C := by
  funext g j
  simp only [zu]
  split
  · next h => obtain ⟨rfl, rfl⟩ := h; rfl
  · split
    · next h => obtain ⟨rfl, rfl⟩ := h; rfl
    · rfl
theorem zback9 {C : zC} {q v : Nat} : zu (zu (zu C 8 q v) 8 q (C 8 q)) 9 q (C 9 q) = C := by
  funext g j
  simp only [zu]
  split
  · next h => obtain ⟨rfl, rfl⟩ := h; rfl
  · split
    · next h => obtain ⟨rfl, rfl⟩ := h; rfl
    · rfl
theorem qmin_n {a b : Nat} (ha : a < 2147483648) (hb : b < 2147483648) : qmin (nI a) (nI b) = nI (min a b) := by
  rw [qmin_nI ha hb]
  congr 1
  split <;> omega
theorem qmax_n {a b : Nat} (ha : a < 2147483648) (hb : b < 2147483648) : qmax (nI a) (nI b) = nI (max a b) := by
  have e : qmax (nI a) (nI b) = nI (if a < b then b else a) := by
    unfold qmax
    simp (disch := omega) only [nI_leI, nI_ltI, nI_eq, nI_cl, qin_eq, nI_add, nI_mul, qb_z, qb_t, qb_f, nI_ne0', Nat.reduceAdd, Bool.false_eq_true, if_false, if_true, true_and, and_true, Nat.reduceEqDiff, not_true_eq_false, not_false_eq_true, false_implies, true_implies, ite_true, ite_false]
    split <;> rfl
  rw [e]
  congr 1
  split <;> omega
set_option maxRecDepth 20000 in
theorem x_playedOn {f l turns dp : Nat} (hl : l < 3) (ht : turns ≤ 3) (hd : 2 ≤ dp)
    (P : ∀ {D : zC} (σ : qSg), zX σ 13 D → zW D → D 0 5 ≤ 99000 → qCI dp 57 [qr 13, qr 25, qi (nI (l + 1)), qi (nI turns)] σ (zGm f (l + 1) D σ))
    {C : zC} {σ : qSg} (h : zX σ 13 C) (hw : zW C) (hm : C 0 5 ≤ 99000) {q : Nat} (hq : q < C 0 1) :
    qCI (dp + 1) 58 [qr 13, qr 25, qi (nI l), qi (nI turns), qi (nI q)] σ (fun v σ' => v = nI (zplay f (l + 1) (zdeed C l q)) ∧ zX σ' 13 C ∧ zG zPgm zR27 σ σ') := by
  obtain ⟨wb, wq, ww1, ww2, wh1, wh2, wo, wm, wB, wQ⟩ := id hw
  have gq := wQ q hq
  refine qCI.of [some (qr 13), some (qr 25), some (qi (nI l)), some (qi (nI turns)), some (qi (nI q)), none, none, none] ok_58 (Nat.le_of_ble_eq_true rfl) rfl ?_
  refine qV.go 30 [47, 64] ok_58 ?_
  simp only [qW_nop, qW_iconst, qW_bipush, qW_ldc, qW_iloadn, qW_iload, qW_aloadn, qW_istore, qW_iadd, qW_irem, qW_ifne, qW_goto, qW_getf, qW_iald, qW_iast, qW_cs4_0, qW_cv2_0, qW_mmin, qW_iret0, Nat.reduceAdd, Nat.reduceMul, Nat.reduceBEq, Nat.reduceEqDiff, Nat.reduceLT, Nat.reduceLeDiff, Nat.zero_le, nI_add, nI_mul, nI_cl, qin_eq, qofI, qlg_0, qlg_s, qls_i0, qls_r0, qls_l0, qls_1, qls_2, qkl_i, qkl_r, qkl_l, qkl_n, qIsI_i, qIsL_l, qIsR_r, qint_i, qil_i, qil_r, qil_l, qf4_0, qf4_1, qf4_2, qf4_3, qf2_0, qf2_1, qcs_n, qcs_i, qcs_r, qcs_l, qst_n, qst_c, qJ_0, qJ_st, qJ_go, qfl_I, qfl_Z, qfl_L, qfl_R, qrI_i, qrL_l, qrV_v, qRcv_0, qRcv_s, eq_self, true_and, and_true, true_or, or_true, false_and, and_false, false_or, or_false, ite_true, if_true, if_false, Bool.true_or, Bool.false_or, Bool.or_false, beq_self_eq_true, Bool.false_eq_true, bX4_playedOn_0, bX4_playedOn_12, bX4_playedOn_47, bX4_playedOn_64, kX4_playedOn_0, kX4_playedOn_12, kX4_playedOn_47, kX4_playedOn_64, qK_13, qR_13_6, qK_14, qR_13_7, qK_15, qR_13_8, qK_16, qR_13_9, qK_17, qR_13_10, qK_18, qR_13_11, qK_19, qR_13_12, qK_20, qR_13_13, qK_21, qR_13_14, qK_22, qR_13_15, qK_23, qR_13_16, qK_24]
  refine qBI.fn (x_hasQuarrel zCb_t h.1 hw _) (by omega) ?_
  rw [zrg_k hq (by omega)]
  have eg : σ.1 23 q = nI (C 8 q) := h.1.gr hq
  have ee : σ.1 24 q = nI (C 9 q) := h.1.en hq
  simp (disch := omega) only [nI_leI, nI_ltI, nI_eq, nI_cl, qin_eq, nI_add, nI_mul, qb_z, qb_t, qb_f, nI_ne0', Nat.reduceAdd, Bool.false_eq_true, if_false, if_true, true_and, and_true, Nat.reduceEqDiff, not_true_eq_false, not_false_eq_true, false_implies, true_implies, ite_true, ite_false]
  rw [eg, ee, nI_rem (by omega) (by decide) (by decide)]
  -- behind the deed
  have go : ∀ (σ1 : qSg) (D : zC), zX σ1 13 D → zW D → D 0 5 ≤ 99000 → zplay f (l + 1) D = zplay f (l + 1) (zdeed C l q) → zu (zu D 8 q (C 8 q)) 9 q (C 9 q) = C → zG zPgm zR27 σ σ1 →
      qV 58 (dp + 1) (.inl fun v σ' => v = nI (zplay f (l + 1) (zdeed C l q)) ∧ zX σ' 13 C ∧ zG zPgm zR27 σ σ') 64 [some (qr 13), some (qr 25), some (qi (nI l)), some (qi (nI turns)), some (qi (nI q)), some (qi (nI (C 8 q))), some (qi (nI (C 9 q))), none] [] σ1 := by
    intro σ1 D y1 yw ym ye yb y2
    refine qV.go 30 [47] ok_58 ?_
    simp only [qW_nop, qW_iconst, qW_bipush, qW_ldc, qW_iloadn, qW_iload, qW_aloadn, qW_istore, qW_iadd, qW_irem, qW_ifne, qW_goto, qW_getf, qW_iald, qW_iast, qW_cs4_0, qW_cv2_0, qW_mmin, qW_iret0, Nat.reduceAdd, Nat.reduceMul, Nat.reduceBEq, Nat.reduceEqDiff, Nat.reduceLT, Nat.reduceLeDiff, Nat.zero_le, nI_add, nI_mul, nI_cl, qin_eq, qofI, qlg_0, qlg_s, qls_i0, qls_r0, qls_l0, qls_1, qls_2, qkl_i, qkl_r, qkl_l, qkl_n, qIsI_i, qIsL_l, qIsR_r, qint_i, qil_i, qil_r, qil_l, qf4_0, qf4_1, qf4_2, qf4_3, qf2_0, qf2_1, qcs_n, qcs_i, qcs_r, qcs_l, qst_n, qst_c, qJ_0, qJ_st, qJ_go, qfl_I, qfl_Z, qfl_L, qfl_R, qrI_i, qrL_l, qrV_v, qRcv_0, qRcv_s, eq_self, true_and, and_true, true_or, or_true, false_and, and_false, false_or, or_false, ite_true, if_true, if_false, Bool.true_or, Bool.false_or, Bool.or_false, beq_self_eq_true, Bool.false_eq_true, bX4_playedOn_0, bX4_playedOn_12, bX4_playedOn_47, bX4_playedOn_64, kX4_playedOn_0, kX4_playedOn_12, kX4_playedOn_47, kX4_playedOn_64, qK_13, qR_13_6, qK_14, qR_13_7, qK_15, qR_13_8, qK_16, qR_13_9, qK_17, qR_13_10, qK_18, qR_13_11, qK_19, qR_13_12, qK_20, qR_13_13, qK_21, qR_13_14, qK_22, qR_13_15, qK_23, qR_13_16, qK_24]
    refine qBI.of (P σ1 y1 yw ym) (by omega) (fun v σ2 g2 => ?_)
    obtain ⟨rfl, z1, z2⟩ := g2
    simp (disch := omega) only [nI_leI, nI_ltI, nI_eq, nI_cl, qin_eq, nI_add, nI_mul, qb_z, qb_t, qb_f, nI_ne0', Nat.reduceAdd, Bool.false_eq_true, if_false, if_true, true_and, and_true, Nat.reduceEqDiff, not_true_eq_false, not_false_eq_true, false_implies, true_implies, ite_true, ite_false]
    have x1 := (z1.uq (f := 2) (q := q) (v := C 8 q) (by decide)).uq (f := 3) (q := q) (v := C 9 q) (by decide)
    have e : zu (zu D (6 + 2) q (C 8 q)) (6 + 3) q (C 9 q) = C := yb
    rw [e] at x1
    exact ⟨by rw [ye], x1, ((y2.tr z2).tr (zG.wi ⟨by decide, by decide⟩)).tr (zG.wi ⟨by decide, by decide⟩)⟩
  have hne : q ≠ C 0 1 := by omega
  simp (disch := omega) only [nI_leI, nI_ltI, nI_eq, nI_cl, qin_eq, nI_add, nI_mul, qb_z, qb_t, qb_f, nI_ne0', Nat.reduceAdd, Bool.false_eq_true, if_false, if_true, true_and, and_true, Nat.reduceEqDiff, not_true_eq_false, not_false_eq_true, false_implies, true_implies, ite_true, ite_false]
  refine ⟨fun g1 => ?_, fun g1 => ?_⟩
  · refine qV.go 30 [64] ok_58 ?_
    simp only [qW_nop, qW_iconst, qW_bipush, qW_ldc, qW_iloadn, qW_iload, qW_aloadn, qW_istore, qW_iadd, qW_irem, qW_ifne, qW_goto, qW_getf, qW_iald, qW_iast, qW_cs4_0, qW_cv2_0, qW_mmin, qW_iret0, Nat.reduceAdd, Nat.reduceMul, Nat.reduceBEq, Nat.reduceEqDiff, Nat.reduceLT, Nat.reduceLeDiff, Nat.zero_le, nI_add, nI_mul, nI_cl, qin_eq, qofI, qlg_0, qlg_s, qls_i0, qls_r0, qls_l0, qls_1, qls_2, qkl_i, qkl_r, qkl_l, qkl_n, qIsI_i, qIsL_l, qIsR_r, qint_i, qil_i, qil_r, qil_l, qf4_0, qf4_1, qf4_2, qf4_3, qf2_0, qf2_1, qcs_n, qcs_i, qcs_r, qcs_l, qst_n, qst_c, qJ_0, qJ_st, qJ_go, qfl_I, qfl_Z, qfl_L, qfl_R, qrI_i, qrL_l, qrV_v, qRcv_0, qRcv_s, eq_self, true_and, and_true, true_or, or_true, false_and, and_false, false_or, or_false, ite_true, if_true, if_false, Bool.true_or, Bool.false_or, Bool.or_false, beq_self_eq_true, Bool.false_eq_true, bX4_playedOn_0, bX4_playedOn_12, bX4_playedOn_47, bX4_playedOn_64, kX4_playedOn_0, kX4_playedOn_12, kX4_playedOn_47, kX4_playedOn_64, qK_13, qR_13_6, qK_14, qR_13_7, qK_15, qR_13_8, qK_16, qR_13_9, qK_17, qR_13_10, qK_18, qR_13_11, qK_19, qR_13_12, qK_20, qR_13_13, qK_21, qR_13_14, qK_22, qR_13_15, qK_23, qR_13_16, qK_24]
    rw [qmin_n (by omega) (by omega), nI_cl (by omega)]
    refine ⟨by omega, qin_n (by omega) (by decide), ?_⟩
    have ed : zdeed C l q = zu C 8 q (min 99 (C 8 q + 9)) := by
      unfold zdeed zstir
      rw [if_neg hne, if_neg g1]
      congr 1
      split <;> omega
    have wd := zdeed_W hw (l := l) (q := q) (by omega)
    rw [ed] at wd
    refine go _ _ (h.uq (f := 2) (q := q) (v := min 99 (C 8 q + 9)) (by decide)) wd (by rw [zu_ne (by omega)]; exact hm) (by rw [ed]) zback9 (zG.wi ⟨by decide, by decide⟩)
  · have ed : zdeed C l q = zu C 9 q 3 := by
      unfold zdeed
      rw [if_neg hne, if_pos g1]
    refine go _ _ (h.uq (f := 3) (q := q) (v := 1) (by decide)) (zW_end1 hw (by decide)) (by rw [zu_ne (by omega)]; exact hm) (by rw [ed]; exact (zEq.e1 (by decide) (by decide)).play _ _) zback8 (zG.wi ⟨by decide, by decide⟩)
set_option maxRecDepth 20000 in
theorem x_play {turns : Nat} (ht : turns ≤ 3) : ∀ f l, l + f = turns → ∀ {C : zC} (σ : qSg), zX σ 13 C → zW C → C 0 5 ≤ 99000 → qCI (4 + 1 + 2 * f) 57 [qr 13, qr 25, qi (nI l), qi (nI turns)] σ (zGm f l C σ) := by
  intro f
  induction f with
  | zero =>
    intro l hl C σ h hw hm
    have : l = turns := by omega
    subst this
    refine qCI.of [some (qr 13), some (qr 25), some (qi (nI l)), some (qi (nI l)), none, none, none] ok_57 (Nat.le_of_ble_eq_true rfl) rfl ?_
    have fin : qV 57 (4 + 1 + 2 * 0) (.inl (zGm 0 l C σ)) 10 [some (qr 13), some (qr 25), some (qi (nI l)), some (qi (nI l)), none, none, none] [] σ := by
      refine qV.go 30 [30] ok_57 ?_
      simp only [qW_nop, qW_iconst, qW_iloadn, qW_iload, qW_aloadn, qW_istore, qW_iinc, qW_iadd, qW_irem, qW_ifne, qW_iclt, qW_icge, qW_goto, qW_getf, qW_iald, qW_cs4_0, qW_cs5_0, qW_cv2_0, qW_mmax, qW_mmin, qW_iret0, Nat.reduceAdd, Nat.reduceMul, Nat.reduceBEq, Nat.reduceEqDiff, Nat.reduceLT, Nat.reduceLeDiff, Nat.zero_le, nI_add, nI_mul, nI_cl, qin_eq, qofI, qlg_0, qlg_s, qls_i0, qls_r0, qls_l0, qls_1, qls_2, qkl_i, qkl_r, qkl_l, qkl_n, qIsI_i, qIsL_l, qIsR_r, qint_i, qil_i, qil_r, qil_l, qf4_0, qf4_1, qf4_2, qf4_3, qf2_0, qf2_1, qcs_n, qcs_i, qcs_r, qcs_l, qst_n, qst_c, qJ_0, qJ_st, qJ_go, qfl_I, qfl_Z, qfl_L, qfl_R, qrI_i, qrL_l, qrV_v, qRcv_0, qRcv_s, eq_self, true_and, and_true, true_or, or_true, false_and, and_false, false_or, or_false, ite_true, if_true, if_false, Bool.true_or, Bool.false_or, Bool.or_false, beq_self_eq_true, Bool.false_eq_true, bX4_play_0, bX4_play_10, bX4_play_16, bX4_play_30, bX4_play_76, bX4_play_83, bX4_play_85, bX4_play_91, kX4_play_0, kX4_play_10, kX4_play_16, kX4_play_30, kX4_play_76, kX4_play_83, kX4_play_85, kX4_play_91, qK_25, qR_25_0, qK_26, qR_25_1, qK_38, qR_25_2, qK_39, qK_13, qR_13_6, qK_14, qR_13_7, qK_15, qR_13_8, qK_16, qR_13_9, qK_17, qR_13_10, qK_18, qR_13_11, qK_19, qR_13_12, qK_20, qR_13_13, qK_21, qR_13_14, qK_22, qR_13_15, qK_23, qR_13_16, qK_24]
      refine qBI.of (x_look zCb_t (by decide) h hw hm) (by omega) (fun v σ2 g2 => ?_)
      obtain ⟨rfl, -, -, -, -, f2⟩ := g2
      exact ⟨rfl, h.fr fun a j h1 h2 => f2.1 a j (by unfold zPlk; omega), f2.wk (fun a j hh => by unfold zPlk at hh; unfold zPgm; omega) (fun a j hh => hh)⟩
    refine qV.go 30 [10, 30] ok_57 ?_
    simp only [qW_nop, qW_iconst, qW_iloadn, qW_iload, qW_aloadn, qW_istore, qW_iinc, qW_iadd, qW_irem, qW_ifne, qW_iclt, qW_icge, qW_goto, qW_getf, qW_iald, qW_cs4_0, qW_cs5_0, qW_cv2_0, qW_mmax, qW_mmin, qW_iret0, Nat.reduceAdd, Nat.reduceMul, Nat.reduceBEq, Nat.reduceEqDiff, Nat.reduceLT, Nat.reduceLeDiff, Nat.zero_le, nI_add, nI_mul, nI_cl, qin_eq, qofI, qlg_0, qlg_s, qls_i0, qls_r0, qls_l0, qls_1, qls_2, qkl_i, qkl_r, qkl_l, qkl_n, qIsI_i, qIsL_l, qIsR_r, qint_i, qil_i, qil_r, qil_l, qf4_0, qf4_1, qf4_2, qf4_3, qf2_0, qf2_1, qcs_n, qcs_i, qcs_r, qcs_l, qst_n, qst_c, qJ_0, qJ_st, qJ_go, qfl_I, qfl_Z, qfl_L, qfl_R, qrI_i, qrL_l, qrV_v, qRcv_0, qRcv_s, eq_self, true_and, and_true, true_or, or_true, false_and, and_false, false_or, or_false, ite_true, if_true, if_false, Bool.true_or, Bool.false_or, Bool.or_false, beq_self_eq_true, Bool.false_eq_true, bX4_play_0, bX4_play_10, bX4_play_16, bX4_play_30, bX4_play_76, bX4_play_83, bX4_play_85, bX4_play_91, kX4_play_0, kX4_play_10, kX4_play_16, kX4_play_30, kX4_play_76, kX4_play_83, kX4_play_85, kX4_play_91, qK_25, qR_25_0, qK_26, qR_25_1, qK_38, qR_25_2, qK_39, qK_13, qR_13_6, qK_14, qR_13_7, qK_15, qR_13_8, qK_16, qR_13_9, qK_17, qR_13_10, qK_18, qR_13_11, qK_19, qR_13_12, qK_20, qR_13_13, qK_21, qR_13_14, qK_22, qR_13_15, qK_23, qR_13_16, qK_24]
    simp (disch := omega) only [nI_leI, nI_ltI, nI_eq, nI_cl, qin_eq, nI_add, nI_mul, qb_z, qb_t, qb_f, nI_ne0', Nat.reduceAdd, Bool.false_eq_true, if_false, if_true, true_and, and_true, Nat.reduceEqDiff, not_true_eq_false, not_false_eq_true, false_implies, true_implies, ite_true, ite_false]
    exact ⟨fun _ => fin, fun g => absurd (Nat.lt_irrefl l) (by omega)⟩
  | succ f ih =>
    intro l hl C σ h hw hm
    have wq := hw.2.1
    refine qCI.of [some (qr 13), some (qr 25), some (qi (nI l)), some (qi (nI turns)), none, none, none] ok_57 (Nat.le_of_ble_eq_true rfl) rfl ?_
    refine qV.go 30 [10, 30] ok_57 ?_
    simp only [qW_nop, qW_iconst, qW_iloadn, qW_iload, qW_aloadn, qW_istore, qW_iinc, qW_iadd, qW_irem, qW_ifne, qW_iclt, qW_icge, qW_goto, qW_getf, qW_iald, qW_cs4_0, qW_cs5_0, qW_cv2_0, qW_mmax, qW_mmin, qW_iret0, Nat.reduceAdd, Nat.reduceMul, Nat.reduceBEq, Nat.reduceEqDiff, Nat.reduceLT, Nat.reduceLeDiff, Nat.zero_le, nI_add, nI_mul, nI_cl, qin_eq, qofI, qlg_0, qlg_s, qls_i0, qls_r0, qls_l0, qls_1, qls_2, qkl_i, qkl_r, qkl_l, qkl_n, qIsI_i, qIsL_l, qIsR_r, qint_i, qil_i, qil_r, qil_l, qf4_0, qf4_1, qf4_2, qf4_3, qf2_0, qf2_1, qcs_n, qcs_i, qcs_r, qcs_l, qst_n, qst_c, qJ_0, qJ_st, qJ_go, qfl_I, qfl_Z, qfl_L, qfl_R, qrI_i, qrL_l, qrV_v, qRcv_0, qRcv_s, eq_self, true_and, and_true, true_or, or_true, false_and, and_false, false_or, or_false, ite_true, if_true, if_false, Bool.true_or, Bool.false_or, Bool.or_false, beq_self_eq_true, Bool.false_eq_true, bX4_play_0, bX4_play_10, bX4_play_16, bX4_play_30, bX4_play_76, bX4_play_83, bX4_play_85, bX4_play_91, kX4_play_0, kX4_play_10, kX4_play_16, kX4_play_30, kX4_play_76, kX4_play_83, kX4_play_85, kX4_play_91, qK_25, qR_25_0, qK_26, qR_25_1, qK_38, qR_25_2, qK_39, qK_13, qR_13_6, qK_14, qR_13_7, qK_15, qR_13_8, qK_16, qR_13_9, qK_17, qR_13_10, qK_18, qR_13_11, qK_19, qR_13_12, qK_20, qR_13_13, qK_21, qR_13_14, qK_22, qR_13_15, qK_23, qR_13_16, qK_24]
    simp (disch := omega) only [nI_leI, nI_ltI, nI_eq, nI_cl, qin_eq, nI_add, nI_mul, qb_z, qb_t, qb_f, nI_ne0', Nat.reduceAdd, Bool.false_eq_true, if_false, if_true, true_and, and_true, Nat.reduceEqDiff, not_true_eq_false, not_false_eq_true, false_implies, true_implies, ite_true, ite_false]
    refine ⟨fun g => absurd g (by omega), fun _ => ⟨fun _ => ?_, fun g => absurd g (by omega)⟩⟩
    refine qBI.of (ih (l + 1) (by omega) σ h hw hm) (by omega) (fun v σ1 g1 => ?_)
    obtain ⟨rfl, x1, f1⟩ := g1
    have bV : ∀ q, q < C 0 1 → zplay f (l + 1) (zdeed C l q) ≤ 130 := fun q hq => zplay_bd f (l + 1) (zdeed_W hw (by omega)) (by rw [zdeed_q _ _ _ _ _ (by decide) (by decide)]; exact hm)
    have b0 := zplay_bd f (l + 1) hw hm
    refine qdown (n := C 0 1) (P := fun q => ∀ σ1 (l6 : Option qPV), zX σ1 13 C → zG zPgm zR27 σ σ1 → qV 57 (4 + 1 + 2 * (f + 1)) (.inl (zGm (f + 1) l C σ)) 30 [some (qr 13), some (qr 25), some (qi (nI l)), some (qi (nI turns)), some (qi (nI (zcf (fun q => zplay f (l + 1) (zdeed C l q)) (zdok C) l (zplay f (l + 1) C) q))), some (qi (nI q)), l6] [] σ1) (fun q hq ih2 => ?_) 0 (Nat.zero_le _) σ1 none x1 f1
    intro σ1 l6 x1 f1
    have bd := zcf_bd (ok := zdok C) (l := l) b0 q (fun i hi => bV i (by omega))
    have hs : zcf (fun q => zplay f (l + 1) (zdeed C l q)) (zdok C) l (zplay f (l + 1) C) (q + 1) = if zdok C q = true then zop l (zcf (fun q => zplay f (l + 1) (zdeed C l q)) (zdok C) l (zplay f (l + 1) C) q) (zplay f (l + 1) (zdeed C l q)) else zcf (fun q => zplay f (l + 1) (zdeed C l q)) (zdok C) l (zplay f (l + 1) C) q := rfl
    have hfin : q = C 0 1 → zplay (f + 1) l C = zcf (fun q => zplay f (l + 1) (zdeed C l q)) (zdok C) l (zplay f (l + 1) C) q := fun e => by rw [e, zplay_cf]
    generalize zcf (fun q => zplay f (l + 1) (zdeed C l q)) (zdok C) l (zplay f (l + 1) C) q = S at bd hs hfin ⊢
    have eb : σ1.1 13 5 = nI (C 0 1) := x1.1.q
    refine qV.go 30 [30, 85] ok_57 ?_
    simp only [qW_nop, qW_iconst, qW_iloadn, qW_iload, qW_aloadn, qW_istore, qW_iinc, qW_iadd, qW_irem, qW_ifne, qW_iclt, qW_icge, qW_goto, qW_getf, qW_iald, qW_cs4_0, qW_cs5_0, qW_cv2_0, qW_mmax, qW_mmin, qW_iret0, Nat.reduceAdd, Nat.reduceMul, Nat.reduceBEq, Nat.reduceEqDiff, Nat.reduceLT, Nat.reduceLeDiff, Nat.zero_le, nI_add, nI_mul, nI_cl, qin_eq, qofI, qlg_0, qlg_s, qls_i0, qls_r0, qls_l0, qls_1, qls_2, qkl_i, qkl_r, qkl_l, qkl_n, qIsI_i, qIsL_l, qIsR_r, qint_i, qil_i, qil_r, qil_l, qf4_0, qf4_1, qf4_2, qf4_3, qf2_0, qf2_1, qcs_n, qcs_i, qcs_r, qcs_l, qst_n, qst_c, qJ_0, qJ_st, qJ_go, qfl_I, qfl_Z, qfl_L, qfl_R, qrI_i, qrL_l, qrV_v, qRcv_0, qRcv_s, eq_self, true_and, and_true, true_or, or_true, false_and, and_false, false_or, or_false, ite_true, if_true, if_false, Bool.true_or, Bool.false_or, Bool.or_false, beq_self_eq_true, Bool.false_eq_true, bX4_play_0, bX4_play_10, bX4_play_16, bX4_play_30, bX4_play_76, bX4_play_83, bX4_play_85, bX4_play_91, kX4_play_0, kX4_play_10, kX4_play_16, kX4_play_30, kX4_play_76, kX4_play_83, kX4_play_85, kX4_play_91, qK_25, qR_25_0, qK_26, qR_25_1, qK_38, qR_25_2, qK_39, qK_13, qR_13_6, qK_14, qR_13_7, qK_15, qR_13_8, qK_16, qR_13_9, qK_17, qR_13_10, qK_18, qR_13_11, qK_19, qR_13_12, qK_20, qR_13_13, qK_21, qR_13_14, qK_22, qR_13_15, qK_23, qR_13_16, qK_24]
    rw [eb]
    simp (disch := omega) only [nI_leI, nI_ltI, nI_eq, nI_cl, qin_eq, nI_add, nI_mul, qb_z, qb_t, qb_f, nI_ne0', Nat.reduceAdd, Bool.false_eq_true, if_false, if_true, true_and, and_true, Nat.reduceEqDiff, not_true_eq_false, not_false_eq_true, false_implies, true_implies, ite_true, ite_false]
    refine ⟨fun g => ?_, fun g => ?_⟩
    · have : q = C 0 1 := by omega
      exact ⟨by rw [hfin this], x1, f1⟩
    · have hq1 : q < C 0 1 := by omega
      have gq := hw.2.2.2.2.2.2.2.2.2 q hq1
      have st : ∀ σ2 v l6, v = nI (zcf (fun q => zplay f (l + 1) (zdeed C l q)) (zdok C) l (zplay f (l + 1) C) (q + 1)) → zX σ2 13 C → zG zPgm zR27 σ σ2 → qV 57 (4 + 1 + 2 * (f + 1)) (.inl (zGm (f + 1) l C σ)) 85 [some (qr 13), some (qr 25), some (qi (nI l)), some (qi (nI turns)), some (qi v), some (qi (nI q)), l6] [] σ2 := by
        intro σ2 v l6 hv y1 y2
        subst hv
        refine qV.go 30 [30] ok_57 ?_
        simp only [qW_nop, qW_iconst, qW_iloadn, qW_iload, qW_aloadn, qW_istore, qW_iinc, qW_iadd, qW_irem, qW_ifne, qW_iclt, qW_icge, qW_goto, qW_getf, qW_iald, qW_cs4_0, qW_cs5_0, qW_cv2_0, qW_mmax, qW_mmin, qW_iret0, Nat.reduceAdd, Nat.reduceMul, Nat.reduceBEq, Nat.reduceEqDiff, Nat.reduceLT, Nat.reduceLeDiff, Nat.zero_le, nI_add, nI_mul, nI_cl, qin_eq, qofI, qlg_0, qlg_s, qls_i0, qls_r0, qls_l0, qls_1, qls_2, qkl_i, qkl_r, qkl_l, qkl_n, qIsI_i, qIsL_l, qIsR_r, qint_i, qil_i, qil_r, qil_l, qf4_0, qf4_1, qf4_2, qf4_3, qf2_0, qf2_1, qcs_n, qcs_i, qcs_r, qcs_l, qst_n, qst_c, qJ_0, qJ_st, qJ_go, qfl_I, qfl_Z, qfl_L, qfl_R, qrI_i, qrL_l, qrV_v, qRcv_0, qRcv_s, eq_self, true_and, and_true, true_or, or_true, false_and, and_false, false_or, or_false, ite_true, if_true, if_false, Bool.true_or, Bool.false_or, Bool.or_false, beq_self_eq_true, Bool.false_eq_true, bX4_play_0, bX4_play_10, bX4_play_16, bX4_play_30, bX4_play_76, bX4_play_83, bX4_play_85, bX4_play_91, kX4_play_0, kX4_play_10, kX4_play_16, kX4_play_30, kX4_play_76, kX4_play_83, kX4_play_85, kX4_play_91]
        exact ih2 hq1 σ2 l6 y1 y2
      have ee : σ1.1 24 q = nI (C 9 q) := x1.1.en hq1
      have ek : zdok C q = decide (C 9 q = 0) := by
        unfold zdok
        rw [decide_eq_false (p := q = C 0 1) (by omega), Bool.false_or]
      rw [ek] at hs
      rw [hs] at st
      rw [ee]
      simp (disch := omega) only [nI_leI, nI_ltI, nI_eq, nI_cl, qin_eq, nI_add, nI_mul, qb_z, qb_t, qb_f, nI_ne0', Nat.reduceAdd, Bool.false_eq_true, if_false, if_true, true_and, and_true, Nat.reduceEqDiff, not_true_eq_false, not_false_eq_true, false_implies, true_implies, ite_true, ite_false]
      refine ⟨fun h9 => st σ1 _ _ (by rw [if_neg (by rw [decide_eq_false h9]; decide)]) x1 f1, fun h9 => ?_⟩
      rw [if_pos (decide_eq_true h9)] at st
      refine qBI.of (x_playedOn (dp := 4 + 1 + 2 * f) (by omega) ht (by omega) (fun σ => ih (l + 1) (by omega) σ) x1 hw hm hq1) (by omega) (fun v σ2 g2 => ?_)
      obtain ⟨rfl, x2, f2⟩ := g2
      have bv := bV q hq1
      rw [nI_rem (by omega) (by decide) (by decide), qmin_n (by omega) (by omega), qmax_n (by omega) (by omega)]
      simp (disch := omega) only [nI_leI, nI_ltI, nI_eq, nI_cl, qin_eq, nI_add, nI_mul, qb_z, qb_t, qb_f, nI_ne0', Nat.reduceAdd, Bool.false_eq_true, if_false, if_true, true_and, and_true, Nat.reduceEqDiff, not_true_eq_false, not_false_eq_true, false_implies, true_implies, ite_true, ite_false]
      refine ⟨fun g1 => ⟨by omega, st _ _ _ ?_ x2 (f1.tr f2)⟩, fun g1 => ⟨by omega, st _ _ _ ?_ x2 (f1.tr f2)⟩⟩
      · unfold zop; rw [if_neg g1]
      · unfold zop; rw [if_pos g1]
set_option maxRecDepth 20000 in
theorem x_outcome {σ : qSg} {C : zC} (h : zX σ 1 C) (hw : zW C) (hm : C 0 5 ≤ 99000) {turns : Nat} (ht : turns ≤ 3) : qCI 17 55 [qr 45, qr 1, qi (nI turns)] σ (fun v σ' => v = nI (zplay turns 0 C) ∧ zG zPgm zRpl σ σ') := by
  refine qCI.of [some (qr 45), some (qr 1), some (qi (nI turns))] ok_55 (Nat.le_of_ble_eq_true rfl) rfl ?_
  refine qV.go 30 [9999] ok_55 ?_
  simp only [qW_nop, qW_iconst, qW_iloadn, qW_aloadn, qW_getf, qW_cs4_0, qW_cv2_2, qW_iret0, Nat.reduceAdd, Nat.reduceMul, Nat.reduceBEq, Nat.reduceEqDiff, Nat.reduceLT, Nat.reduceLeDiff, Nat.zero_le, nI_add, nI_mul, nI_cl, qin_eq, qofI, qlg_0, qlg_s, qls_i0, qls_r0, qls_l0, qls_1, qls_2, qkl_i, qkl_r, qkl_l, qkl_n, qIsI_i, qIsL_l, qIsR_r, qint_i, qil_i, qil_r, qil_l, qf4_0, qf4_1, qf4_2, qf4_3, qf2_0, qf2_1, qcs_n, qcs_i, qcs_r, qcs_l, qst_n, qst_c, qJ_0, qJ_st, qJ_go, qfl_I, qfl_Z, qfl_L, qfl_R, qrI_i, qrL_l, qrV_v, qRcv_0, qRcv_s, eq_self, true_and, and_true, true_or, or_true, false_and, and_false, false_or, or_false, ite_true, if_true, if_false, Bool.true_or, Bool.false_or, Bool.or_false, beq_self_eq_true, Bool.false_eq_true, bX4_outcome_0, kX4_outcome_0, qK_45, qR_45_0, qK_13, qR_45_1, qK_25, qK_13, qR_13_6, qK_14, qR_13_7, qK_15, qR_13_8, qK_16, qR_13_9, qK_17, qR_13_10, qK_18, qR_13_11, qK_19, qR_13_12, qK_20, qR_13_13, qK_21, qR_13_14, qK_22, qR_13_15, qK_23, qR_13_16, qK_24, qK_25, qR_25_0, qK_26, qR_25_1, qK_38, qR_25_2, qK_39, qK_1, qR_1_6, qK_2, qR_1_7, qK_3, qR_1_8, qK_4, qR_1_9, qK_5, qR_1_10, qK_6, qR_1_11, qK_7, qR_1_12, qK_8, qR_1_13, qK_9, qR_1_14, qK_10, qR_1_15, qK_11, qR_1_16, qK_12]
  refine qBV.of (x_copy zCb_t zCb_n (by decide) h hw) (by decide) (fun σ0 g0 => ?_)
  obtain ⟨y0, -, f0⟩ := g0
  have f0' : zG zPgm zRpl σ σ0 := f0.wk (fun a j hh => by unfold zXf at hh; unfold zPgm; omega) (fun a j hh => Or.inl hh)
  refine qBI.of (x_play ht turns 0 (by omega) σ0 y0 hw hm) (by omega) (fun v σ1 g1 => ?_)
  exact ⟨g1.1, f0'.tr (g1.2.2.wk (fun a j hh => hh) (fun a j hh => Or.inr hh))⟩
theorem zfold_lt {V : Nat → Nat} {ok : Nat → Bool} {l : Nat} : ∀ n s, zfold V ok l n = some s → s.1 < n ∧ s.2 = V s.1
  | 0, s, h => by simp [zfold] at h
  | n + 1, s, h => by
    have ih := zfold_lt (V := V) (ok := ok) (l := l) n
    simp only [zfold] at h
    split at h
    · cases e : zfold V ok l n with
      | none =>
        rw [e] at h
        simp only [zst] at h
        cases h
        exact ⟨by omega, rfl⟩
      | some t =>
        rw [e] at h
        simp only [zst] at h
        have := ih t e
        split at h
        · cases h
          exact ⟨by omega, rfl⟩
        · cases h
          exact ⟨by omega, this.2⟩
    · have := ih s h
      exact ⟨by omega, this.2⟩
set_option maxRecDepth 20000 in
theorem x_firstMove {σ : qSg} {C : zC} (h : zX σ 1 C) (hw : zW C) (hm : C 0 5 ≤ 99000) {f : Nat} (hf : f < 3) : qCI 20 56 [qr 45, qr 1, qi (nI (f + 1))] σ (fun v σ' => v = (match zmove f 0 C with | none => iI (-1) | some s => if s.1 = C 0 1 then iI (-1) else nI s.1) ∧ zG zPgm zRpl σ σ') := by
  have wq := hw.2.1
  refine qCI.of [some (qr 45), some (qr 1), some (qi (nI (f + 1))), none, none, none, none] ok_56 (Nat.le_of_ble_eq_true rfl) rfl ?_
  refine qV.go 30 [17] ok_56 ?_
  simp only [qW_nop, qW_iconst, qW_iconstm, qW_ldc, qW_iloadn, qW_iload, qW_aloadn, qW_istoren, qW_istore, qW_iinc, qW_ifne, qW_icge, qW_goto, qW_getf, qW_iald, qW_cs4_0, qW_cs5_0, qW_cv2_2, qW_iret0, Nat.reduceAdd, Nat.reduceMul, Nat.reduceBEq, Nat.reduceEqDiff, Nat.reduceLT, Nat.reduceLeDiff, Nat.zero_le, nI_add, nI_mul, nI_cl, qin_eq, qofI, qlg_0, qlg_s, qls_i0, qls_r0, qls_l0, qls_1, qls_2, qkl_i, qkl_r, qkl_l, qkl_n, qIsI_i, qIsL_l, qIsR_r, qint_i, qil_i, qil_r, qil_l, qf4_0, qf4_1, qf4_2, qf4_3, qf2_0, qf2_1, qcs_n, qcs_i, qcs_r, qcs_l, qst_n, qst_c, qJ_0, qJ_st, qJ_go, qfl_I, qfl_Z, qfl_L, qfl_R, qrI_i, qrL_l, qrV_v, qRcv_0, qRcv_s, eq_self, true_and, and_true, true_or, or_true, false_and, and_false, false_or, or_false, ite_true, if_true, if_false, Bool.true_or, Bool.false_or, Bool.or_false, beq_self_eq_true, Bool.false_eq_true, bX4_firstMove_0, bX4_firstMove_17, bX4_firstMove_69, bX4_firstMove_75, bX4_firstMove_96, bX4_firstMove_98, kX4_firstMove_0, kX4_firstMove_17, kX4_firstMove_69, kX4_firstMove_75, kX4_firstMove_96, kX4_firstMove_98, qK_45, qR_45_0, qK_13, qR_45_1, qK_25, qK_13, qR_13_6, qK_14, qR_13_7, qK_15, qR_13_8, qK_16, qR_13_9, qK_17, qR_13_10, qK_18, qR_13_11, qK_19, qR_13_12, qK_20, qR_13_13, qK_21, qR_13_14, qK_22, qR_13_15, qK_23, qR_13_16, qK_24, qK_25, qR_25_0, qK_26, qR_25_1, qK_38, qR_25_2, qK_39, qK_1, qR_1_6, qK_2, qR_1_7, qK_3, qR_1_8, qK_4, qR_1_9, qK_5, qR_1_10, qK_6, qR_1_11, qK_7, qR_1_12, qK_8, qR_1_13, qK_9, qR_1_14, qK_10, qR_1_15, qK_11, qR_1_16, qK_12]
  refine qBV.of (x_copy zCb_t zCb_n (by decide) h hw) (by decide) (fun σ0 g0 => ?_)
  obtain ⟨y0, -, f0⟩ := g0
  have f0' : zG zPgm zRpl σ σ0 := f0.wk (fun a j hh => by unfold zXf at hh; unfold zPgm; omega) (fun a j hh => Or.inl hh)
  have bV : ∀ q, q < C 0 1 → zplay f 1 (zdeed C 0 q) ≤ 130 := fun q hq => zplay_bd f 1 (zdeed_W hw (by omega)) (by rw [zdeed_q _ _ _ _ _ (by decide) (by decide)]; exact hm)
  have b0 := zplay_bd f 1 hw hm
  refine qdown (n := C 0 1) (P := fun q => ∀ σ1 (l6 : Option qPV), zX σ1 13 C → zG zPgm zRpl σ σ1 → qV 56 20 (.inl fun v σ' => v = (match zmove f 0 C with | none => iI (-1) | some s => if s.1 = C 0 1 then iI (-1) else nI s.1) ∧ zG zPgm zRpl σ σ') 17 [some (qr 45), some (qr 1), some (qi (nI (f + 1))), some (qi (match zfold (fun q => zplay f 1 (zdeed C 0 q)) (zdok C) 0 q with | none => nI 1000000 | some s => nI s.2)), some (qi (match zfold (fun q => zplay f 1 (zdeed C 0 q)) (zdok C) 0 q with | none => iI (-1) | some s => nI s.1)), some (qi (nI q)), l6] [] σ1) (fun q hq ih => ?_) 0 (Nat.zero_le _) σ0 none y0 f0'
  intro σ1 l6 x1 f1
  have eb : σ1.1 1 5 = nI (C 0 1) := by rw [f1.1 _ _ (by unfold zPgm; omega)]; exact h.1.q
  have hs : zfold (fun q => zplay f 1 (zdeed C 0 q)) (zdok C) 0 (q + 1) = if zdok C q = true then zst 0 (zplay f 1 (zdeed C 0 q)) q (zfold (fun q => zplay f 1 (zdeed C 0 q)) (zdok C) 0 q) else zfold (fun q => zplay f 1 (zdeed C 0 q)) (zdok C) 0 q := rfl
  have hlt := zfold_lt (V := fun q => zplay f 1 (zdeed C 0 q)) (ok := zdok C) (l := 0) q
  have hfin : q = C 0 1 → zmove f 0 C = zst 0 (zplay f 1 C) (C 0 1) (zfold (fun q => zplay f 1 (zdeed C 0 q)) (zdok C) 0 q) := fun e => by
    unfold zmove
    rw [zfold, if_pos (zdok_n C), zdeed_n, e]
  generalize zfold (fun q => zplay f 1 (zdeed C 0 q)) (zdok C) 0 q = S at hs hfin hlt ⊢
  refine qV.go 30 [17, 69] ok_56 ?_
  simp only [qW_nop, qW_iconst, qW_iconstm, qW_ldc, qW_iloadn, qW_iload, qW_aloadn, qW_istoren, qW_istore, qW_iinc, qW_ifne, qW_icge, qW_goto, qW_getf, qW_iald, qW_cs4_0, qW_cs5_0, qW_cv2_2, qW_iret0, Nat.reduceAdd, Nat.reduceMul, Nat.reduceBEq, Nat.reduceEqDiff, Nat.reduceLT, Nat.reduceLeDiff, Nat.zero_le, nI_add, nI_mul, nI_cl, qin_eq, qofI, qlg_0, qlg_s, qls_i0, qls_r0, qls_l0, qls_1, qls_2, qkl_i, qkl_r, qkl_l, qkl_n, qIsI_i, qIsL_l, qIsR_r, qint_i, qil_i, qil_r, qil_l, qf4_0, qf4_1, qf4_2, qf4_3, qf2_0, qf2_1, qcs_n, qcs_i, qcs_r, qcs_l, qst_n, qst_c, qJ_0, qJ_st, qJ_go, qfl_I, qfl_Z, qfl_L, qfl_R, qrI_i, qrL_l, qrV_v, qRcv_0, qRcv_s, eq_self, true_and, and_true, true_or, or_true, false_and, and_false, false_or, or_false, ite_true, if_true, if_false, Bool.true_or, Bool.false_or, Bool.or_false, beq_self_eq_true, Bool.false_eq_true, bX4_firstMove_0, bX4_firstMove_17, bX4_firstMove_69, bX4_firstMove_75, bX4_firstMove_96, bX4_firstMove_98, kX4_firstMove_0, kX4_firstMove_17, kX4_firstMove_69, kX4_firstMove_75, kX4_firstMove_96, kX4_firstMove_98, qK_45, qR_45_0, qK_13, qR_45_1, qK_25, qK_13, qR_13_6, qK_14, qR_13_7, qK_15, qR_13_8, qK_16, qR_13_9, qK_17, qR_13_10, qK_18, qR_13_11, qK_19, qR_13_12, qK_20, qR_13_13, qK_21, qR_13_14, qK_22, qR_13_15, qK_23, qR_13_16, qK_24, qK_25, qR_25_0, qK_26, qR_25_1, qK_38, qR_25_2, qK_39, qK_1, qR_1_6, qK_2, qR_1_7, qK_3, qR_1_8, qK_4, qR_1_9, qK_5, qR_1_10, qK_6, qR_1_11, qK_7, qR_1_12, qK_8, qR_1_13, qK_9, qR_1_14, qK_10, qR_1_15, qK_11, qR_1_16, qK_12]
  rw [eb]
  simp (disch := omega) only [nI_leI, nI_ltI, nI_eq, nI_cl, qin_eq, nI_add, nI_mul, qb_z, qb_t, qb_f, nI_ne0', Nat.reduceAdd, Bool.false_eq_true, if_false, if_true, true_and, and_true, Nat.reduceEqDiff, not_true_eq_false, not_false_eq_true, false_implies, true_implies, ite_true, ite_false]
  refine ⟨fun g => ?_, fun g => ?_⟩
  · have e : q = C 0 1 := by omega
    have hfin := hfin e
    refine qBI.of (x_play (turns := f + 1) (by omega) f 1 (by omega) σ1 x1 hw hm) (by omega) (fun v σ2 g2 => ?_)
    obtain ⟨rfl, x2, f2⟩ := g2
    have f3 : zG zPgm zRpl σ σ2 := f1.tr (f2.wk (fun a j hh => hh) (fun a j hh => Or.inr hh))
    rw [hfin]
    cases S with
    | none =>
      simp (disch := omega) only [nI_leI, nI_ltI, nI_eq, nI_cl, qin_eq, nI_add, nI_mul, qb_z, qb_t, qb_f, nI_ne0', Nat.reduceAdd, Bool.false_eq_true, if_false, if_true, true_and, and_true, Nat.reduceEqDiff, not_true_eq_false, not_false_eq_true, false_implies, true_implies, ite_true, ite_false]
      exact ⟨fun g1 => absurd g1 (by omega), fun _ => ⟨by simp [zst], f3⟩⟩
    | some s =>
      have hl := hlt s rfl
      have b1 := bV s.1 (by omega)
      have b2 : s.2 = zplay f 1 (zdeed C 0 s.1) := hl.2
      simp (disch := omega) only [nI_leI, nI_ltI, nI_eq, nI_cl, qin_eq, nI_add, nI_mul, qb_z, qb_t, qb_f, nI_ne0', Nat.reduceAdd, Bool.false_eq_true, if_false, if_true, true_and, and_true, Nat.reduceEqDiff, not_true_eq_false, not_false_eq_true, false_implies, true_implies, ite_true, ite_false]
      refine ⟨fun g1 => ⟨?_, f3⟩, fun g1 => ⟨?_, f3⟩⟩
      · simp only [zst]
        rw [if_neg (by omega)]
        dsimp only
        rw [if_neg (by omega)]
      · simp only [zst]
        rw [if_pos (Or.inl ⟨trivial, by omega⟩)]
        dsimp only
        rw [if_pos rfl]
  · have hq1 : q < C 0 1 := by omega
    have gq := hw.2.2.2.2.2.2.2.2.2 q hq1
    have ee : σ1.1 24 q = nI (C 9 q) := x1.1.en hq1
    have ek : zdok C q = decide (C 9 q = 0) := by
      unfold zdok
      rw [decide_eq_false (p := q = C 0 1) (by omega), Bool.false_or]
    rw [ek] at hs
    rw [hs] at ih
    have st : ∀ σ2 u v l6, u = (match (if decide (C 9 q = 0) = true then zst 0 (zplay f 1 (zdeed C 0 q)) q S else S) with | none => nI 1000000 | some s => nI s.2) → v = (match (if decide (C 9 q = 0) = true then zst 0 (zplay f 1 (zdeed C 0 q)) q S else S) with | none => iI (-1) | some s => nI s.1) → zX σ2 13 C → zG zPgm zRpl σ σ2 → qV 56 20 (.inl fun v σ' => v = (match zmove f 0 C with | none => iI (-1) | some s => if s.1 = C 0 1 then iI (-1) else nI s.1) ∧ zG zPgm zRpl σ σ') 69 [some (qr 45), some (qr 1), some (qi (nI (f + 1))), some (qi u), some (qi v), some (qi (nI q)), l6] [] σ2 := by
      intro σ2 u v l6 hu hv y1 y2
      subst hu
      subst hv
      refine qV.go 30 [17] ok_56 ?_
      simp only [qW_nop, qW_iconst, qW_iconstm, qW_ldc, qW_iloadn, qW_iload, qW_aloadn, qW_istoren, qW_istore, qW_iinc, qW_ifne, qW_icge, qW_goto, qW_getf, qW_iald, qW_cs4_0, qW_cs5_0, qW_cv2_2, qW_iret0, Nat.reduceAdd, Nat.reduceMul, Nat.reduceBEq, Nat.reduceEqDiff, Nat.reduceLT, Nat.reduceLeDiff, Nat.zero_le, nI_add, nI_mul, nI_cl, qin_eq, qofI, qlg_0, qlg_s, qls_i0, qls_r0, qls_l0, qls_1, qls_2, qkl_i, qkl_r, qkl_l, qkl_n, qIsI_i, qIsL_l, qIsR_r, qint_i, qil_i, qil_r, qil_l, qf4_0, qf4_1, qf4_2, qf4_3, qf2_0, qf2_1, qcs_n, qcs_i, qcs_r, qcs_l, qst_n, qst_c, qJ_0, qJ_st, qJ_go, qfl_I, qfl_Z, qfl_L, qfl_R, qrI_i, qrL_l, qrV_v, qRcv_0, qRcv_s, eq_self, true_and, and_true, true_or, or_true, false_and, and_false, false_or, or_false, ite_true, if_true, if_false, Bool.true_or, Bool.false_or, Bool.or_false, beq_self_eq_true, Bool.false_eq_true, bX4_firstMove_0, bX4_firstMove_17, bX4_firstMove_69, bX4_firstMove_75, bX4_firstMove_96, bX4_firstMove_98, kX4_firstMove_0, kX4_firstMove_17, kX4_firstMove_69, kX4_firstMove_75, kX4_firstMove_96, kX4_firstMove_98]
      exact ih hq1 σ2 l6 y1 y2
    rw [ee]
    simp (disch := omega) only [nI_leI, nI_ltI, nI_eq, nI_cl, qin_eq, nI_add, nI_mul, qb_z, qb_t, qb_f, nI_ne0', Nat.reduceAdd, Bool.false_eq_true, if_false, if_true, true_and, and_true, Nat.reduceEqDiff, not_true_eq_false, not_false_eq_true, false_implies, true_implies, ite_true, ite_false]
    refine ⟨fun h9 => st σ1 _ _ _ (by rw [if_neg (by rw [decide_eq_false h9]; decide)]) (by rw [if_neg (by rw [decide_eq_false h9]; decide)]) x1 f1, fun h9 => ?_⟩
    rw [if_pos (decide_eq_true h9)] at st
    refine qBI.of (x_playedOn (l := 0) (dp := 4 + 1 + 2 * f) (by omega) (turns := f + 1) (by omega) (by omega) (fun σ => x_play (turns := f + 1) (by omega) f 1 (by omega) σ) x1 hw hm hq1) (by omega) (fun v σ2 g2 => ?_)
    obtain ⟨rfl, x2, f2⟩ := g2
    have f3 : zG zPgm zRpl σ σ2 := f1.tr (f2.wk (fun a j hh => hh) (fun a j hh => Or.inr hh))
    have bv := bV q hq1
    cases S with
    | none =>
      simp (disch := omega) only [nI_leI, nI_ltI, nI_eq, nI_cl, qin_eq, nI_add, nI_mul, qb_z, qb_t, qb_f, nI_ne0', Nat.reduceAdd, Bool.false_eq_true, if_false, if_true, true_and, and_true, Nat.reduceEqDiff, not_true_eq_false, not_false_eq_true, false_implies, true_implies, ite_true, ite_false]
      refine ⟨fun g1 => absurd g1 (by omega), fun _ => st _ _ _ _ rfl rfl x2 f3⟩
    | some s =>
      have hl := hlt s rfl
      have b1 := bV s.1 (by omega)
      have b2 : s.2 = zplay f 1 (zdeed C 0 s.1) := hl.2
      simp (disch := omega) only [nI_leI, nI_ltI, nI_eq, nI_cl, qin_eq, nI_add, nI_mul, qb_z, qb_t, qb_f, nI_ne0', Nat.reduceAdd, Bool.false_eq_true, if_false, if_true, true_and, and_true, Nat.reduceEqDiff, not_true_eq_false, not_false_eq_true, false_implies, true_implies, ite_true, ite_false]
      refine ⟨fun g1 => st _ _ _ _ ?_ ?_ x2 f3, fun g1 => st _ _ _ _ ?_ ?_ x2 f3⟩
      · simp only [zst]
        rw [if_neg (by omega)]
      · simp only [zst]
        rw [if_neg (by omega)]
      · simp only [zst]
        rw [if_pos (Or.inl ⟨trivial, by omega⟩)]
      · simp only [zst]
        rw [if_pos (Or.inl ⟨trivial, by omega⟩)]
