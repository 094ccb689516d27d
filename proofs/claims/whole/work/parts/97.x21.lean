/-! the class: nights, by binomials -/
def zbin : Nat → Nat → Nat
  | _, 0 => 1
  | 0, _ + 1 => 0
  | k + 1, i + 1 => zbin k (i + 1) + zbin k i
theorem zbin_0 : ∀ k i, k < i → zbin k i = 0
  | 0, i + 1, _ => rfl
  | k + 1, i + 1, h => by
    have h1 := zbin_0 k (i + 1) (by omega)
    have h2 := zbin_0 k i (by omega)
    simp only [zbin]
    omega
theorem zni_bin (odds : Nat) : ∀ k i, zni odds k i = zbin k i * odds ^ (k - i) * (16 - odds) ^ i
  | 0, 0 => by simp [zni, zbin]
  | 0, i + 1 => by simp [zni, zbin]
  | k + 1, 0 => by
    have ih := zni_bin odds k 0
    have e : zbin k 0 = 1 := by cases k <;> rfl
    simp only [zni, zbin, ih, e, Nat.sub_zero, Nat.pow_zero, Nat.mul_one, Nat.one_mul]
    rw [Nat.pow_succ]
  | k + 1, i + 1 => by
    have h1 := zni_bin odds k (i + 1)
    have h2 := zni_bin odds k i
    simp only [zni, zbin, h1, h2]
    rw [show k + 1 - (i + 1) = k - i by omega]
    by_cases h : i + 1 ≤ k
    · have e : odds ^ (k - i) = odds ^ (k - (i + 1)) * odds := by rw [← Nat.pow_succ]; congr 1; omega
      rw [e, Nat.pow_succ, Nat.add_mul, Nat.add_mul]
      have m1 : zbin k (i + 1) * odds ^ (k - (i + 1)) * ((16 - odds) ^ i * (16 - odds)) * odds = zbin k (i + 1) * (odds ^ (k - (i + 1)) * odds) * ((16 - odds) ^ i * (16 - odds)) := by ac_rfl
      have m2 : zbin k i * (odds ^ (k - (i + 1)) * odds) * (16 - odds) ^ i * (16 - odds) = zbin k i * (odds ^ (k - (i + 1)) * odds) * ((16 - odds) ^ i * (16 - odds)) := by ac_rfl
      rw [m1, m2]
    · rw [zbin_0 k (i + 1) (by omega), Nat.pow_succ]
      simp only [Nat.zero_mul, Nat.zero_add]
      ac_rfl
theorem zbin_w : ∀ n, n < 11 → ∀ s, s < n + 1 → zbin n s * (n - s) / (s + 1) = zbin n (s + 1) := by decide +kernel
theorem zbin_le : ∀ n, n < 11 → ∀ s, s < 12 → zbin n s ≤ 252 := by decide +kernel
set_option maxRecDepth 20000 in
theorem x_nights (σ : qSg) {n k o : Nat} (hn : n ≤ 10) (hk : k ≤ 10) (ho : o ≤ 16) : qCL 2 59 [qi (nI n), qi (nI k), qi (nI o)] σ (fun v σ' => v = lN (znsum o n (k + 1)) ∧ σ' = σ) := by
  refine qCL.of [some (qi (nI n)), some (qi (nI k)), some (qi (nI o)), none, none, none, none, none] ok_59 (Nat.le_of_ble_eq_true rfl) rfl ?_
  refine qV.go 30 [8] ok_59 ?_
  simp only [qW_nop, qW_iconst, qW_bipush, qW_lconst, qW_iloadn, qW_iload, qW_lloadn, qW_lload, qW_istore, qW_lstoren, qW_lstore, qW_iinc, qW_iadd, qW_isub, qW_ladd, qW_lmul, qW_ldiv, qW_i2l, qW_icgt, qW_goto, qW_lret, qW_cs2_1, Nat.reduceAdd, Nat.reduceMul, Nat.reduceBEq, Nat.reduceEqDiff, Nat.reduceLT, Nat.reduceLeDiff, Nat.zero_le, nI_add, nI_mul, nI_cl, qin_eq, qofI, qlg_0, qlg_s, qls_i0, qls_r0, qls_l0, qls_1, qls_2, qkl_i, qkl_r, qkl_l, qkl_n, qIsI_i, qIsL_l, qIsR_r, qint_i, qil_i, qil_r, qil_l, qf4_0, qf4_1, qf4_2, qf4_3, qf2_0, qf2_1, qcs_n, qcs_i, qcs_r, qcs_l, qst_n, qst_c, qJ_0, qJ_st, qJ_go, qfl_I, qfl_Z, qfl_L, qfl_R, qrI_i, qrL_l, qrV_v, qRcv_0, qRcv_s, eq_self, true_and, and_true, true_or, or_true, false_and, and_false, false_or, or_false, ite_true, if_true, if_false, Bool.true_or, Bool.false_or, Bool.or_false, beq_self_eq_true, Bool.false_eq_true, bX4_nightsWithFew_0, bX4_nightsWithFew_8, bX4_nightsWithFew_68, kX4_nightsWithFew_0, kX4_nightsWithFew_8, kX4_nightsWithFew_68]
  have z0 : ∀ j, n < j → zni o n j = 0 := fun j hj => by rw [zni_bin, zbin_0 n j hj, Nat.zero_mul, Nat.zero_mul]
  have zs : ∀ j, n < j → ∀ c, znsum o n (j + c) = znsum o n j := fun j hj c => by
    induction c with
    | zero => rfl
    | succ c ih =>
      show znsum o n (j + c) + zni o n (j + c) = _
      rw [ih, z0 _ (by omega), Nat.add_zero]
  have i2l : ∀ m, m < 2147483648 → (nI m).toInt64 = lN m := fun m hm => by
    apply Int64.toInt_inj.mp
    rw [qi2l, nI_t hm, lN_t' (by omega)]
  have e0 : zbin n 0 = 1 := by cases n <;> rfl
  have key := qdown (n := 11) (P := fun s => s ≤ n + 1 → s ≤ k + 1 → qV 59 2 (.inr (.inl fun v σ' => v = lN (znsum o n (k + 1)) ∧ σ' = σ)) 8 [some (qi (nI n)), some (qi (nI k)), some (qi (nI o)), some (ql (lN (znsum o n s))), none, some (ql (lN (zbin n s))), none, some (qi (nI s))] [] σ) (fun s hs ih => ?_) 0 (Nat.zero_le _) (Nat.zero_le _) (Nat.zero_le _)
  · rw [e0] at key
    exact key
  · intro hsn hsk
    have fin : znsum o n s = znsum o n (k + 1) → qV 59 2 (.inr (.inl fun v σ' => v = lN (znsum o n (k + 1)) ∧ σ' = σ)) 68 [some (qi (nI n)), some (qi (nI k)), some (qi (nI o)), some (ql (lN (znsum o n s))), none, some (ql (lN (zbin n s))), none, some (qi (nI s))] [] σ := by
      intro he
      refine qV.go 30 [9999] ok_59 ?_
      simp only [qW_nop, qW_iconst, qW_bipush, qW_lconst, qW_iloadn, qW_iload, qW_lloadn, qW_lload, qW_istore, qW_lstoren, qW_lstore, qW_iinc, qW_iadd, qW_isub, qW_ladd, qW_lmul, qW_ldiv, qW_i2l, qW_icgt, qW_goto, qW_lret, qW_cs2_1, Nat.reduceAdd, Nat.reduceMul, Nat.reduceBEq, Nat.reduceEqDiff, Nat.reduceLT, Nat.reduceLeDiff, Nat.zero_le, nI_add, nI_mul, nI_cl, qin_eq, qofI, qlg_0, qlg_s, qls_i0, qls_r0, qls_l0, qls_1, qls_2, qkl_i, qkl_r, qkl_l, qkl_n, qIsI_i, qIsL_l, qIsR_r, qint_i, qil_i, qil_r, qil_l, qf4_0, qf4_1, qf4_2, qf4_3, qf2_0, qf2_1, qcs_n, qcs_i, qcs_r, qcs_l, qst_n, qst_c, qJ_0, qJ_st, qJ_go, qfl_I, qfl_Z, qfl_L, qfl_R, qrI_i, qrL_l, qrV_v, qRcv_0, qRcv_s, eq_self, true_and, and_true, true_or, or_true, false_and, and_false, false_or, or_false, ite_true, if_true, if_false, Bool.true_or, Bool.false_or, Bool.or_false, beq_self_eq_true, Bool.false_eq_true, bX4_nightsWithFew_0, bX4_nightsWithFew_8, bX4_nightsWithFew_68, kX4_nightsWithFew_0, kX4_nightsWithFew_8, kX4_nightsWithFew_68]
      rw [he]
    refine qV.go 30 [8, 68] ok_59 ?_
    simp only [qW_nop, qW_iconst, qW_bipush, qW_lconst, qW_iloadn, qW_iload, qW_lloadn, qW_lload, qW_istore, qW_lstoren, qW_lstore, qW_iinc, qW_iadd, qW_isub, qW_ladd, qW_lmul, qW_ldiv, qW_i2l, qW_icgt, qW_goto, qW_lret, qW_cs2_1, Nat.reduceAdd, Nat.reduceMul, Nat.reduceBEq, Nat.reduceEqDiff, Nat.reduceLT, Nat.reduceLeDiff, Nat.zero_le, nI_add, nI_mul, nI_cl, qin_eq, qofI, qlg_0, qlg_s, qls_i0, qls_r0, qls_l0, qls_1, qls_2, qkl_i, qkl_r, qkl_l, qkl_n, qIsI_i, qIsL_l, qIsR_r, qint_i, qil_i, qil_r, qil_l, qf4_0, qf4_1, qf4_2, qf4_3, qf2_0, qf2_1, qcs_n, qcs_i, qcs_r, qcs_l, qst_n, qst_c, qJ_0, qJ_st, qJ_go, qfl_I, qfl_Z, qfl_L, qfl_R, qrI_i, qrL_l, qrV_v, qRcv_0, qRcv_s, eq_self, true_and, and_true, true_or, or_true, false_and, and_false, false_or, or_false, ite_true, if_true, if_false, Bool.true_or, Bool.false_or, Bool.or_false, beq_self_eq_true, Bool.false_eq_true, bX4_nightsWithFew_0, bX4_nightsWithFew_8, bX4_nightsWithFew_68, kX4_nightsWithFew_0, kX4_nightsWithFew_8, kX4_nightsWithFew_68]
    simp (disch := omega) only [nI_leI, nI_ltI, nI_eq, nI_cl, qin_eq, nI_add, nI_mul, qb_z, qb_t, qb_f, nI_ne0', Nat.reduceAdd, Bool.false_eq_true, if_false, if_true, true_and, and_true, Nat.reduceEqDiff, not_true_eq_false, not_false_eq_true, false_implies, true_implies, ite_true, ite_false]
    refine ⟨fun h1 => fin ?_, fun h1 => ⟨fun h2 => fin (by rw [show s = k + 1 by omega]), fun h2 => ?_⟩⟩
    · have := zs s (by omega) (k + 1 - s)
      rw [show s + (k + 1 - s) = k + 1 by omega] at this
      exact this.symm
    · rw [nI_sub (by omega), nI_sub (by omega), i2l _ (by omega)]
      refine qBL.of (x_power σ o (t := n - s) (by omega)) (by decide) (fun v σ1 g => ?_)
      obtain ⟨rfl, rfl⟩ := g
      rw [i2l _ (by omega)]
      refine qBL.of (x_power _ (16 - o) (t := s) (by omega)) (by decide) (fun v σ1 g => ?_)
      obtain ⟨rfl, rfl⟩ := g
      rw [i2l _ (by omega), i2l _ (by omega)]
      have b1 := zbin_le n (by omega) s (by omega)
      have b2 : zbin n s * (n - s) ≤ 252 * 10 := Nat.mul_le_mul b1 (by omega)
      refine ⟨lN_ne0 (by omega) (by omega), ?_⟩
      rw [lN_mul, lN_mul, lN_mul, lN_div (by omega) (by omega) (by omega), zbin_w n (by omega) s (by omega), lN_add]
      have es : znsum o n s + zbin n s * o ^ (n - s) * (16 - o) ^ s = znsum o n (s + 1) := by
        rw [← zni_bin]
        rfl
      rw [es]
      exact ih (by omega) (by omega) (by omega)
