/-! the class: a look ahead -/
theorem zOpen_clock (C : zC) (v q : Nat) : zOpen (zu C 0 5 v) q = zOpen C q := by unfold zOpen; rw [zu_ne (by omega)]
theorem zUp_clock (C : zC) (v b : Nat) : zUp (zu C 0 5 v) b = zUp C b := by
  have e : (bm (C 0 1) fun q => zOpen (zu C 0 5 v) q && zin (zu C 0 5 v) q b) = bm (C 0 1) fun q => zOpen C q && zin C q b := bm_congr fun q hq => by
    rw [zOpen_clock]
    unfold zin
    rw [zu_ne (by omega), zu_ne (by omega)]
  unfold zUp zof
  rw [show zu C 0 5 v 0 1 = C 0 1 from zu_ne (by omega), e]
theorem zmf_c0 (up : Nat) (C : zC) : ∀ q, (zmf up C q).2.2 = 0 → (zmf up C q).2.1 = 0
  | 0, _ => rfl
  | q + 1, h => by
    have ih := zmf_c0 up C q
    rw [zmf_s] at h ⊢
    by_cases g : zOpen (zmf up C q).1 q = true ∧ zwho (zmf up C q).1 up q ≠ 0
    · rw [if_pos g] at h
      dsimp only at h
      exact absurd h (zyy_ne g.2)
    · rw [if_neg g] at h ⊢
      exact ih h
theorem zah {C : zC} (hw : zW C) (hm : C 0 5 ≤ 99000) {k M : Nat} (ho : zcount (zOpen (zit k C)) (C 0 1) ≠ 0) (hk : k ≤ 130) (hM : max ((zit k C 0 5 : Nat) : Int) (zear (zit k C)) = M) :
    zu (zit k C) 0 5 M = zit (k + (M - (C 0 5 + k))) C ∧ k + (M - (C 0 5 + k)) ≤ 129 ∧ (∀ m, k ≤ m → m ≤ k + (M - (C 0 5 + k)) → zit m C = zu (zit k C) 0 5 (C 0 5 + m)) ∧ (∀ m, k ≤ m → m < k + (M - (C 0 5 + k)) → (zmin (zit m C)).2.2 = 0) ∧ 1 ≤ (zmin (zit (k + (M - (C 0 5 + k))) C)).2.1 ∧ (zmin (zit (k + (M - (C 0 5 + k))) C)).2.2 ≠ 0 ∧ zcount (zOpen (zit (k + (M - (C 0 5 + k)) + 1) C)) (C 0 1) + 1 ≤ zcount (zOpen (zit k C)) (C 0 1) ∧ zcount (zOpen (zit (k + (M - (C 0 5 + k))) C)) (C 0 1) = zcount (zOpen (zit k C)) (C 0 1) ∧ M = C 0 5 + (k + (M - (C 0 5 + k))) := by
  have ek := zit_clock C k
  obtain ⟨q, hq, hqo⟩ := zcount_pos _ ho
  have hq9 : zit k C 9 q = 0 := of_decide_eq_true hqo
  have k130 : k < 130 := by
    rcases Nat.lt_or_ge k 130 with e | e
    · exact e
    · exact absurd hq9 (zit_end hw e (by omega) hq)
  have wk := zit_W hw k (by omega)
  have e1 : (zit k C) 0 1 = C 0 1 := zit_q _ _ _ (by decide) (by decide) (by decide) k
  have hz := (zearf_le (zit k C) (zups (zit k C)) (zit k C 0 1)).2 q (by omega) hqo
  have gq := wk.2.2.2.2.2.2.2.2.2 q (by omega)
  have d6 := zdue_bd wk (up := zups (zit k C)) gq.1 (show q < zit k C 0 1 by omega)
  have hz2 : zear (zit k C) ≤ 129 := by unfold zear; omega
  have same : ∀ m, k ≤ m → m ≤ k + (M - (C 0 5 + k)) → zit m C = zu (zit k C) 0 5 (C 0 5 + m) := fun m h1 h2 => by
    by_cases e : m = k
    · subst e
      rw [← ek]
      exact zu_self.symm
    · have := zskip (C := zit k C) (m - k) (by omega)
      have e5 : (zit k C) 0 5 + (m - k) = C 0 5 + m := by omega
      rw [e5] at this
      have e6 : zit m C = zit (m - k) (zit k C) := by rw [← zit_add, Nat.add_sub_cancel' h1]
      rw [e6]
      show (zmins (m - k) (zit k C)).1 = _
      rw [this]
  have eM : M = C 0 5 + (k + (M - (C 0 5 + k))) := by omega
  have eD : zu (zit k C) 0 5 M = zit (k + (M - (C 0 5 + k))) C := by
    rw [same _ (by omega) (Nat.le_refl _), ← eM]
  have ezD : zear (zit (k + (M - (C 0 5 + k))) C) = zear (zit k C) := by rw [← eD, zear_clock]
  have e5D : (zit (k + (M - (C 0 5 + k))) C) 0 5 = M := by rw [zit_clock]; omega
  have c6 : 1 ≤ (zmin (zit (k + (M - (C 0 5 + k))) C)).2.1 := zmin_some (by omega) (by omega)
  have cs : zcount (zOpen (zit (k + (M - (C 0 5 + k))) C)) (C 0 1) = zcount (zOpen (zit k C)) (C 0 1) := zcount_cg _ fun i hi => by rw [← eD, zOpen_clock]
  have c2 := zmins_cnt C (k + (M - (C 0 5 + k)))
  have c3 := zmins_cnt C (k + (M - (C 0 5 + k)) + 1)
  have c5 : (zmins (k + (M - (C 0 5 + k)) + 1) C).2 = (zmins (k + (M - (C 0 5 + k))) C).2 + (zmin (zit (k + (M - (C 0 5 + k))) C)).2.1 := rfl
  refine ⟨eD, by omega, same, fun m h1 h2 => ?_, c6, fun hy => ?_, by omega, cs, eM⟩
  · rw [zmin_none (by rw [same m h1 (by omega), zear_clock, zu_eq]; omega)]
  · have := zmf_c0 _ _ _ hy
    have e : (zmin (zit (k + (M - (C 0 5 + k))) C)).2.1 = 0 := this
    omega
def zPlk (a j : Nat) : Prop := (26 ≤ a ∧ a ≤ 39) ∨ (a = 25 ∧ j = 3)
def zLk (σ : qSg) (C : zC) (k : Nat) : Prop := zX σ 26 (zit k C) ∧ (∀ b, b < C 0 0 → σ.1 38 b = if zUp (zit k C) b = true then nI (zupb C b) else iI (-1)) ∧ (∀ q, q < C 0 1 → σ.1 39 q = if zOpen (zit k C) q = true then iI (-1) else nI (zover C q)) ∧
  ((σ.1 25 3 = iI (-1) ∧ k = 0) ∨ (σ.1 25 3 = nI (zlow (zmin (zit (zfst C) C)).2.2) ∧ 1 ≤ k)) ∧ (k = 0 ∨ zcount (zOpen (zit k C)) (C 0 1) < zcount (zOpen (zit (k - 1) C)) (C 0 1))
theorem zopen_mono {C : zC} {q n m : Nat} (hq : q < C 0 1) (hnm : n ≤ m) (h : zOpen (zit m C) q = true) : zOpen (zit n C) q = true := by
  by_cases e : zit n C 9 q = 0
  · exact decide_eq_true e
  · have := zit_over hq n m hnm e
    have h : zit m C 9 q = 0 := of_decide_eq_true h
    rw [h] at this
    exact absurd this.symm e
/-- one round's figures -/
theorem zLk.up {C : zC} (hw : zW C) (hm : C 0 5 ≤ 99000) {k k1 b : Nat} (hk1 : k1 ≤ 129) (hkk : k ≤ k1) (same : ∀ m, k ≤ m → m ≤ k1 → zit m C = zu (zit k C) 0 5 (C 0 5 + m)) (h0 : zUp (zit k C) b = false) (h1 : zUp (zit (k1 + 1) C) b = true) : zupb C b = k1 + 1 := by
  refine zlst_is _ _ _ _ (Nat.zero_le _) (by omega) h1 (fun m _ hm1 => ?_)
  by_cases e : m ≤ k
  · cases e2 : zUp (zit m C) b with
    | false => rfl
    | true =>
      have := zUp_mono e e2
      rw [h0] at this
      cases this
  · rw [same m (by omega) (by omega), zUp_clock]
    exact h0
theorem zLk.ov {C : zC} (hw : zW C) (hm : C 0 5 ≤ 99000) {k k1 q : Nat} (hq : q < C 0 1) (hk1 : k1 ≤ 129) (hkk : k ≤ k1) (same : ∀ m, k ≤ m → m ≤ k1 → zit m C = zu (zit k C) 0 5 (C 0 5 + m)) (h0 : zOpen (zit k C) q = true) (h1 : zOpen (zit (k1 + 1) C) q = false) : zover C q = k1 + 1 := by
  refine zlst_is _ _ _ _ (Nat.zero_le _) (by omega) (decide_eq_true (of_decide_eq_false h1)) (fun m _ hm1 => ?_)
  have : zOpen (zit m C) q = true := by
    by_cases e : m ≤ k
    · exact zopen_mono hq e h0
    · rw [same m (by omega) (by omega), zOpen_clock]
      exact h0
  have : zit m C 9 q = 0 := of_decide_eq_true this
  simp [this]
theorem zbrk_is {C : zC} (hw : zW C) (hm : C 0 5 ≤ 99000) {k : Nat} (hk : k ≤ 130) (h0 : zcount (zOpen (zit k C)) (C 0 1) = 0) (h1 : k = 0 ∨ zcount (zOpen (zit k C)) (C 0 1) < zcount (zOpen (zit (k - 1) C)) (C 0 1)) : zbrk C = k ∧ ∀ b, zUp (zit k C) b = true := by
  have hno : ∀ q, q < C 0 1 → zOpen (zit k C) q = false := by
    intro q hq
    cases e : zOpen (zit k C) q with
    | false => rfl
    | true =>
      exfalso
      have : ∀ n, q < n → 0 < zcount (zOpen (zit k C)) n := by
        intro n
        induction n with
        | zero => intro hh; omega
        | succ n ih =>
          intro hh
          simp only [zcount]
          by_cases e2 : q = n
          · subst e2; rw [e]; simp
          · have := ih (by omega); omega
      have := this _ hq
      omega
  have e1 : (zit k C) 0 1 = C 0 1 := zit_q _ _ _ (by decide) (by decide) (by decide) k
  have up : ∀ b, zUp (zit k C) b = true := fun b => (zUp_iff _ _).mpr fun q hq _ => of_decide_eq_false (hno q (by omega))
  refine ⟨?_, up⟩
  refine zlst_is _ _ _ _ (Nat.zero_le _) (by omega) ?_ (fun m _ hm1 => ?_)
  · show zsub (2 ^ C 0 0 - 1) (zups (zit k C)) = true
    rw [zups_full (fun b _ => up b)]
    unfold zsub
    simp
  · show zsub (2 ^ C 0 0 - 1) (zups (zit m C)) = false
    rcases h1 with h1 | h1
    · omega
    · obtain ⟨q, hq, hqo⟩ := zcount_pos (p := zOpen (zit (k - 1) C)) (C 0 1) (by omega)
      have hqm := zopen_mono hq (show m ≤ k - 1 by omega) hqo
      have e1m : (zit m C) 0 1 = C 0 1 := zit_q _ _ _ (by decide) (by decide) (by decide) m
      have g := hw.2.2.2.2.2.2.2.2.2 q hq
      cases e : zsub (2 ^ C 0 0 - 1) (zups (zit m C)) with
      | false => rfl
      | true =>
        exfalso
        have := (zsub_iff _ _).mp e (C 6 q) (by rw [Nat.testBit_two_pow_sub_one]; simp [g.1])
        rw [zups_it] at this
        simp only [Bool.and_eq_true] at this
        have := (zUp_iff _ _).mp this.2 q (by omega) (by rw [zin_it]; unfold zin; simp)
        exact this (of_decide_eq_true hqm)
