/-! the class: the weeks' reader, its lines -/
def zXv (σ : qSg) (s : zQ) : Prop := zXW σ 67 s.1 s.2.1 s.2.2.1 ∧ σ.1 67 0 = nI 1 ∧ σ.1 66 3 = nI s.2.2.2.1 ∧ ∀ i, i < s.2.2.2.1 → σ.1 73 i = nI (s.2.2.2.2 i)
/-- a line more is begun: the word k, its numbers x y z -/
def zXj (σ : qSg) (s : zQ) (k x y z : Nat) : Prop :=
  σ.1 67 0 = nI 1 ∧ σ.1 67 1 = nI (s.2.1 + 1) ∧ σ.1 67 2 = nI (s.2.2.1 + 1) ∧ σ.1 66 3 = nI (if k = 15 ∨ k = 16 then s.2.2.2.1 + 1 else s.2.2.2.1) ∧ (∀ i, i < s.2.2.2.1 → σ.1 73 i = nI (s.2.2.2.2 i)) ∧ (k = 15 ∨ k = 16 → σ.1 73 s.2.2.2.1 = nI s.2.1) ∧ (∀ q, q < s.2.1 → zXrw σ 67 s.1 q) ∧
    σ.1 68 s.2.1 = nI (zkn k) ∧ σ.1 69 s.2.1 = nI x ∧ σ.1 70 s.2.1 = nI y ∧ σ.1 71 s.2.1 = nI z
def zPwr (a j : Nat) : Prop := (a = 50 ∧ 3 ≤ j ∧ j ≤ 12) ∨ (a = 66 ∧ j = 3) ∨ (67 ≤ a ∧ a ≤ 73)
theorem zPxt_w {σ σ' : qSg} (f : zG zPxt zRxt σ σ') : zG zPwr zRxt σ σ' := f.wk (fun a j h => by unfold zPxt at h; unfold zPwr; omega) (fun a j h => h)
theorem zXrw.cg {σ : qSg} {w k : Nat} {W W' : Nat → Nat → Nat} (h : zXrw σ w W k) (e : W' k = W k) : zXrw σ w W' k := by
  unfold zXrw zWo at *
  rw [e]
  exact h
theorem zXj.f {σ σ' : qSg} {s : zQ} {k x y z : Nat} (h : zXj σ s k x y z) (e : ∀ a j, 66 ≤ a → a ≤ 73 → σ'.1 a j = σ.1 a j) : zXj σ' s k x y z := by
  obtain ⟨h1, h2, h3, h4, h5, h6, h7, h8, h9, h10, h11⟩ := h
  refine ⟨?_, ?_, ?_, ?_, fun i hi => ?_, fun hk => ?_, fun q hq => (h7 q hq).fr fun i a b => e _ _ (by omega) (by omega), ?_, ?_, ?_, ?_⟩
  · rw [e _ _ (by decide) (by decide)]; exact h1
  · rw [e _ _ (by decide) (by decide)]; exact h2
  · rw [e _ _ (by decide) (by decide)]; exact h3
  · rw [e _ _ (by decide) (by decide)]; exact h4
  · rw [e _ _ (by decide) (by decide)]; exact h5 i hi
  · rw [e _ _ (by decide) (by decide)]; exact h6 hk
  · rw [e _ _ (by decide) (by decide)]; exact h8
  · rw [e _ _ (by decide) (by decide)]; exact h9
  · rw [e _ _ (by decide) (by decide)]; exact h10
  · rw [e _ _ (by decide) (by decide)]; exact h11
theorem zXj.t {σ σ' : qSg} {s : zQ} {k x y z : Nat} (h : zXj σ s k x y z) (f : zG zPxt zRxt σ σ') : zXj σ' s k x y z := h.f fun a j h1 h2 => f.1 a j (by unfold zPxt; omega)
theorem zXv.f {σ σ' : qSg} {s : zQ} (h : zXv σ s) (e : ∀ a j, 66 ≤ a → a ≤ 73 → σ'.1 a j = σ.1 a j) : zXv σ' s :=
  ⟨h.1.fr fun a j h1 h2 => e a j (by omega) (by omega), by rw [e _ _ (by decide) (by decide)]; exact h.2.1, by rw [e _ _ (by decide) (by decide)]; exact h.2.2.1, fun i hi => by rw [e _ _ (by decide) (by decide)]; exact h.2.2.2 i hi⟩
theorem zXv.t {σ σ' : qSg} {s : zQ} (h : zXv σ s) (f : zG zPxt zRxt σ σ') : zXv σ' s := h.f fun a j h1 h2 => f.1 a j (by unfold zPxt; omega)
theorem zXj.fill {σ : qSg} {s : zQ} {k x y z u v w : Nat} (h : zXj σ s k u v w) : zXj (qwi (qwi (qwi σ 69 s.2.1 (nI x)) 70 s.2.1 (nI y)) 71 s.2.1 (nI z)) s k x y z := by
  obtain ⟨h1, h2, h3, h4, h5, h6, h7, h8, h9, h10, h11⟩ := h
  have e : ∀ a j, ¬ ((a = 69 ∨ a = 70 ∨ a = 71) ∧ j = s.2.1) → (qwi (qwi (qwi σ 69 s.2.1 (nI x)) 70 s.2.1 (nI y)) 71 s.2.1 (nI z)).1 a j = σ.1 a j := fun a j hn => by
    rw [qwi_1, if_neg (by omega), qwi_1, if_neg (by omega), qwi_1, if_neg (by omega)]
  refine ⟨?_, ?_, ?_, ?_, fun i hi => ?_, fun hk => ?_, fun q hq => (h7 q hq).fr fun i a b => e _ _ (by omega), ?_, ?_, ?_, ?_⟩
  · rw [e _ _ (by omega)]; exact h1
  · rw [e _ _ (by omega)]; exact h2
  · rw [e _ _ (by omega)]; exact h3
  · rw [e _ _ (by omega)]; exact h4
  · rw [e _ _ (by omega)]; exact h5 i hi
  · rw [e _ _ (by omega)]; exact h6 hk
  · rw [e _ _ (by omega)]; exact h8
  · rw [qwi_1, if_neg (by omega), qwi_1, if_neg (by omega), qwi_1, if_pos ⟨rfl, rfl⟩]
  · rw [qwi_1, if_neg (by omega), qwi_1, if_pos ⟨rfl, rfl⟩]
  · rw [qwi_1, if_pos ⟨rfl, rfl⟩]
theorem zXj.push {σ : qSg} {s : zQ} {boys cells k : Nat} {r : Nat → Nat} (h : zXj σ s k (zwa r) (zwb r) (zwc r)) (hr : zRg boys cells k r) (hk : k = 3 ∨ (10 ≤ k ∧ k ≤ 18)) (h17 : k ≠ 17) : zXv σ (zpush s k r) := by
  obtain ⟨h1, h2, h3, h4, h5, h6, h7, h8, h9, h10, h11⟩ := h
  obtain ⟨r1, r4, r0⟩ := hr
  have ek : zwk r = zkn k := by
    unfold zwk
    by_cases e : k = 15
    · rw [if_pos e] at r0
      rw [if_pos (by omega), e]
      rfl
    · rw [if_neg e] at r0
      rw [if_neg (by omega), r0]
  have n17 : r 0 ≠ 17 := by
    split at r0 <;> omega
  have row : zXrw σ 67 (fun i j => if i = s.2.1 then r j else s.1 i j) s.2.1 := by
    have e : (fun i j => if i = s.2.1 then r j else s.1 i j) s.2.1 = r := by
      funext j
      exact if_pos rfl
    unfold zXrw zWo
    rw [e, ek]
    exact ⟨h8, h9, h10, h11, fun hh => absurd hh (by omega)⟩
  have rows : ∀ q, q < s.2.1 + 1 → zXrw σ 67 (fun i j => if i = s.2.1 then r j else s.1 i j) q := by
    intro q hq
    by_cases e : q = s.2.1
    · rw [e]; exact row
    · refine (h7 q (by omega)).cg ?_
      funext j
      exact if_neg e
  unfold zpush
  by_cases ho : k = 15 ∨ k = 16
  · rw [if_pos ho] at h4 ⊢
    refine ⟨⟨h2, h3, rows⟩, h1, h4, fun i hi => ?_⟩
    have hi : i < s.2.2.2.1 + 1 := hi
    show σ.1 73 i = nI (if i = s.2.2.2.1 then s.2.1 else s.2.2.2.2 i)
    by_cases e : i = s.2.2.2.1
    · rw [if_pos e, e]; exact h6 ho
    · rw [if_neg e]; exact h5 i (by omega)
  · rw [if_neg ho] at h4 ⊢
    rw [if_neg h17]
    exact ⟨⟨h2, h3, rows⟩, h1, h4, h5⟩
set_option maxRecDepth 20000 in
theorem x_isStep (σ : qSg) {y : Nat} (hy : y ≤ 22) : qFI 1 129 [qi (zkc y)] σ (qb (decide (y = 3 ∨ (10 ≤ y ∧ y ≤ 16) ∨ y = 18))) := by
  have e3 : (zkc y = nI 8) = (y = 3) := zkc_eq (k := 3) hy (by decide)
  have e16 : (zkc y = nI 19) = (y = 16) := zkc_eq (k := 16) hy (by decide)
  have e18 : (zkc y = nI 21) = (y = 18) := zkc_eq (k := 18) hy (by decide)
  have hz : ∀ y, y < 22 → (zkn y < 10 ↔ y = 0 ∨ y = 1 ∨ y = 2 ∨ y = 3 ∨ y = 4 ∨ y = 5 ∨ y = 6 ∨ y = 7 ∨ y = 8 ∨ y = 9) ∧ (15 < zkn y ↔ 16 ≤ y) := by decide +kernel
  have el : (zkc y < nI 10) = (y < 10 ∨ y = 22) := by
    rw [qlt, zkc_t hy, nI_t (by decide)]
    apply propext
    by_cases h : y < 22
    · have := hz y h
      rw [if_pos h]
      omega
    · rw [if_neg h]
      omega
  have eg : (nI 15 < zkc y) = (16 ≤ y ∧ y ≠ 22) := by
    rw [qlt, zkc_t hy, nI_t (by decide)]
    apply propext
    by_cases h : y < 22
    · have := hz y h
      rw [if_pos h]
      omega
    · rw [if_neg h]
      omega
  refine qCI.of [some (qi (zkc y))] ok_129 (Nat.le_of_ble_eq_true rfl) rfl ?_
  refine qV.go 30 [9999] ok_129 ?_
  simp only [qW_nop, qW_iconst, qW_bipush, qW_iloadn, qW_iceq, qW_iclt, qW_icgt, qW_goto, qW_iret1, Nat.reduceAdd, Nat.reduceMul, Nat.reduceBEq, Nat.reduceEqDiff, Nat.reduceLT, Nat.reduceLeDiff, Nat.zero_le, nI_add, nI_mul, nI_cl, qin_eq, qofI, qlg_0, qlg_s, qls_i0, qls_r0, qls_l0, qls_1, qls_2, qkl_i, qkl_r, qkl_l, qkl_n, qIsI_i, qIsL_l, qIsR_r, qint_i, qil_i, qil_r, qil_l, qf4_0, qf4_1, qf4_2, qf4_3, qf2_0, qf2_1, qcs_n, qcs_i, qcs_r, qcs_l, qst_n, qst_c, qJ_0, qJ_st, qJ_go, qfl_I, qfl_Z, qfl_L, qfl_R, qrI_i, qrL_l, qrV_v, qRcv_0, qRcv_s, eq_self, true_and, and_true, true_or, or_true, false_and, and_false, false_or, or_false, ite_true, if_true, if_false, Bool.true_or, Bool.false_or, Bool.or_false, beq_self_eq_true, Bool.false_eq_true, bX10_isStep_0, bX10_isStep_30, bX10_isStep_34, bX10_isStep_35, kX10_isStep_0, kX10_isStep_30, kX10_isStep_34, kX10_isStep_35]
  rw [e3, e16, e18, el, eg]
  have yes : (y = 3 ∨ (10 ≤ y ∧ y ≤ 16) ∨ y = 18) → nI 1 = qb (decide (y = 3 ∨ (10 ≤ y ∧ y ≤ 16) ∨ y = 18)) := fun h => by rw [decide_eq_true h]; rfl
  have no : ¬ (y = 3 ∨ (10 ≤ y ∧ y ≤ 16) ∨ y = 18) → nI 0 = qb (decide (y = 3 ∨ (10 ≤ y ∧ y ≤ 16) ∨ y = 18)) := fun h => by rw [decide_eq_false h]; rfl
  refine ⟨fun g => yes (by omega), fun g => ⟨fun g2 => yes (by omega), fun g2 => ⟨fun g3 => yes (by omega), fun g3 => ⟨fun g4 => no (by omega), fun g4 => ⟨fun g5 => no (by omega), fun g5 => yes (by omega)⟩⟩⟩⟩⟩
theorem zad_k {σ : qSg} {w m a j : Nat} {x : Int32} (h1 : ¬ (w + 1 ≤ a ∧ a ≤ w + 5 ∧ j = m)) (h2 : ¬ (a = w ∧ j = 1)) : (zad σ w m x).1 a j = σ.1 a j := by
  unfold zad
  rw [qwi_1, if_neg (by omega), qwi_1, if_neg (by omega), qwi_1, if_neg (by omega), qwi_1, if_neg (by omega), qwi_1, if_neg (by omega), qwi_1, if_neg (by omega)]
theorem zad_2 {σ : qSg} {w m : Nat} {x : Int32} : (zad σ w m x).2 = σ.2 := rfl
theorem zad_v {σ : qSg} {w m : Nat} {x : Int32} : (zad σ w m x).1 (w + 1) m = x ∧ (zad σ w m x).1 (w + 2) m = nI 0 ∧ (zad σ w m x).1 (w + 3) m = nI 0 ∧ (zad σ w m x).1 (w + 4) m = nI 0 ∧ (zad σ w m x).1 (w + 5) m = nI m ∧ (zad σ w m x).1 w 1 = nI (m + 1) := by
  unfold zad
  refine ⟨?_, ?_, ?_, ?_, ?_, ?_⟩
  · rw [qwi_1, if_neg (by omega), qwi_1, if_neg (by omega), qwi_1, if_neg (by omega), qwi_1, if_neg (by omega), qwi_1, if_neg (by omega), qwi_1, if_pos ⟨rfl, rfl⟩]
  · rw [qwi_1, if_neg (by omega), qwi_1, if_neg (by omega), qwi_1, if_neg (by omega), qwi_1, if_neg (by omega), qwi_1, if_pos ⟨rfl, rfl⟩]
  · rw [qwi_1, if_neg (by omega), qwi_1, if_neg (by omega), qwi_1, if_neg (by omega), qwi_1, if_pos ⟨rfl, rfl⟩]
  · rw [qwi_1, if_neg (by omega), qwi_1, if_neg (by omega), qwi_1, if_pos ⟨rfl, rfl⟩]
  · rw [qwi_1, if_neg (by omega), qwi_1, if_pos ⟨rfl, rfl⟩]
  · rw [qwi_1, if_pos ⟨rfl, rfl⟩]
theorem zXj.mk0 {σ T : qSg} {s : zQ} {k : Nat} (V : zXv σ s) (a0 : T.1 67 0 = σ.1 67 0) (a1 : T.1 67 1 = nI (s.2.1 + 1)) (a2 : T.1 67 2 = nI (s.2.2.1 + 1)) (a3 : T.1 66 3 = nI (if k = 15 ∨ k = 16 then s.2.2.2.1 + 1 else s.2.2.2.1))
    (a4 : ∀ i, i < s.2.2.2.1 → T.1 73 i = σ.1 73 i) (a5 : k = 15 ∨ k = 16 → T.1 73 s.2.2.2.1 = nI s.2.1) (a6 : ∀ i q, 1 ≤ i → i ≤ 5 → q < s.2.1 → T.1 (67 + i) q = σ.1 (67 + i) q)
    (a7 : T.1 68 s.2.1 = nI (zkn k)) (a8 : T.1 69 s.2.1 = nI 0) (a9 : T.1 70 s.2.1 = nI 0) (a10 : T.1 71 s.2.1 = nI 0) : zXj T s k 0 0 0 := by
  obtain ⟨⟨v1, v2, v3⟩, v4, v5, v6⟩ := V
  exact ⟨by rw [a0]; exact v4, a1, a2, a3, fun i hi => by rw [a4 i hi]; exact v6 i hi, a5, fun q hq => (v3 q hq).fr fun i b c => a6 i q b c hq, a7, a8, a9, a10⟩
/-- a line is begun; is it a block's first? -/
theorem zXj.one {σ : qSg} {s : zQ} {k : Nat} (V : zXv σ s) (hk : k < 22) (hb : ¬ (k = 15 ∨ k = 16)) : zXj (qwi (zad σ 67 s.2.1 (zkc k)) 67 2 (nI (s.2.2.1 + 1))) s k 0 0 0 := by
  obtain ⟨b1, b2, b3, b4, b5, b6⟩ := zad_v (σ := σ) (w := 67) (m := s.2.1) (x := zkc k)
  have ek : zkc k = nI (zkn k) := if_pos hk
  have e : ∀ a j, ¬ (68 ≤ a ∧ a ≤ 72 ∧ j = s.2.1) → ¬ (a = 67 ∧ (j = 1 ∨ j = 2)) → (qwi (zad σ 67 s.2.1 (zkc k)) 67 2 (nI (s.2.2.1 + 1))).1 a j = σ.1 a j := fun a j h1 h2 => by
    rw [qwi_1, if_neg (by omega), zad_k (by omega) (by omega)]
  refine zXj.mk0 V (e _ _ (by omega) (by omega)) ?_ ?_ ?_ (fun i _ => e _ _ (by omega) (by omega)) (fun hh => absurd hh hb) (fun i q _ _ _ => e _ _ (by omega) (by omega)) ?_ ?_ ?_ ?_
  · rw [qwi_1, if_neg (by omega)]; exact b6
  · rw [qwi_1, if_pos ⟨rfl, rfl⟩]
  · rw [if_neg hb, e _ _ (by omega) (by omega)]; exact V.2.2.1
  · rw [qwi_1, if_neg (by omega), ← ek]; exact b1
  · rw [qwi_1, if_neg (by omega)]; exact b2
  · rw [qwi_1, if_neg (by omega)]; exact b3
  · rw [qwi_1, if_neg (by omega)]; exact b4
theorem zXj.two {σ : qSg} {s : zQ} {k : Nat} (V : zXv σ s) (hk : k < 22) (hb : k = 15 ∨ k = 16) : zXj (qwi (qwi (qwi (zad σ 67 s.2.1 (zkc k)) 67 2 (nI (s.2.2.1 + 1))) 73 s.2.2.2.1 (nI s.2.1)) 66 3 (nI (s.2.2.2.1 + 1))) s k 0 0 0 := by
  obtain ⟨b1, b2, b3, b4, b5, b6⟩ := zad_v (σ := σ) (w := 67) (m := s.2.1) (x := zkc k)
  have ek : zkc k = nI (zkn k) := if_pos hk
  have e : ∀ a j, ¬ (68 ≤ a ∧ a ≤ 72 ∧ j = s.2.1) → ¬ (a = 67 ∧ (j = 1 ∨ j = 2)) → ¬ (a = 73 ∧ j = s.2.2.2.1) → a ≠ 66 → (qwi (qwi (qwi (zad σ 67 s.2.1 (zkc k)) 67 2 (nI (s.2.2.1 + 1))) 73 s.2.2.2.1 (nI s.2.1)) 66 3 (nI (s.2.2.2.1 + 1))).1 a j = σ.1 a j := fun a j h1 h2 h3 h4 => by
    rw [qwi_1, if_neg (by omega), qwi_1, if_neg (by omega), qwi_1, if_neg (by omega), zad_k (by omega) (by omega)]
  refine zXj.mk0 V (e _ _ (by omega) (by omega) (by omega) (by omega)) ?_ ?_ ?_ (fun i hi => e _ _ (by omega) (by omega) (by omega) (by omega)) (fun _ => ?_) (fun i q _ _ _ => e _ _ (by omega) (by omega) (by omega) (by omega)) ?_ ?_ ?_ ?_
  · rw [qwi_1, if_neg (by omega), qwi_1, if_neg (by omega), qwi_1, if_neg (by omega)]; exact b6
  · rw [qwi_1, if_neg (by omega), qwi_1, if_neg (by omega), qwi_1, if_pos ⟨rfl, rfl⟩]
  · rw [if_pos hb, qwi_1, if_pos ⟨rfl, rfl⟩]
  · rw [qwi_1, if_neg (by omega), qwi_1, if_pos ⟨rfl, rfl⟩]
  · rw [qwi_1, if_neg (by omega), qwi_1, if_neg (by omega), qwi_1, if_neg (by omega), ← ek]; exact b1
  · rw [qwi_1, if_neg (by omega), qwi_1, if_neg (by omega), qwi_1, if_neg (by omega)]; exact b2
  · rw [qwi_1, if_neg (by omega), qwi_1, if_neg (by omega), qwi_1, if_neg (by omega)]; exact b3
  · rw [qwi_1, if_neg (by omega), qwi_1, if_neg (by omega), qwi_1, if_neg (by omega)]; exact b4
def zXb (B : Nat → Nat) (n : Nat) (s : zQ) (p : Nat) (σ : qSg) (v : Int32) (σ' : qSg) : Prop :=
  (match zpBegin B s p with
  | some f => v = nI 0 ∧ zXe σ' (zno B p f)
  | none => v = nI 1 ∧ zXd σ' B n (tkE B p) ∧ zXj σ' s (tkY B p) 0 0 0) ∧ zG zPwr zRxt σ σ'
set_option maxRecDepth 20000 in
theorem x_beginStep {σ : qSg} {B : Nat → Nat} {n p boys cells : Nat} {s : zQ} (hB : zBW B n) (hp : p ≤ n) (h : zXd σ B n p) (hs : zXv σ s) (hq : zQW boys cells s) (h17 : tkY B p ≠ 17) : qCI 4 128 [qr 66, qi (zkc (tkY B p))] σ (zXb B n s p σ) := by
  have hy := tkY_le B p
  obtain ⟨hst, hln, hdp, -⟩ := id hq
  obtain ⟨⟨v1, v2, v3⟩, v4, v5, v6⟩ := id hs
  refine qCI.of [some (qr 66), some (qi (zkc (tkY B p))), none] ok_128 (Nat.le_of_ble_eq_true rfl) rfl ?_
  have e15 : (zkc (tkY B p) = nI 15) = (tkY B p = 15) := zkc_eq (k := 15) hy (by decide)
  have e16 : (zkc (tkY B p) = nI 19) = (tkY B p = 16) := zkc_eq (k := 16) hy (by decide)
  have on : ∀ b : Bool, b = decide (tkY B p = 15 ∨ tkY B p = 16) → qV 128 4 (.inl (zXb B n s p σ)) 17 [some (qr 66), some (qi (zkc (tkY B p))), none] [qi (qb b)] σ := by
    intro b hb
    refine qV.go 30 [77] ok_128 ?_
    simp only [qW_nop, qW_iconst, qW_bipush, qW_iloadn, qW_aloadn, qW_istoren, qW_iadd, qW_isub, qW_dup, qW_ifeq, qW_iceq, qW_ifne, qW_icne, qW_iflt, qW_iclt, qW_icge, qW_goto, qW_getf, qW_iast, qW_cs1_0, qW_cv1_0, qW_cv1_2, qW_cv2_0, qW_cv2_2, qW_iret1, qW_putf0, Nat.reduceAdd, Nat.reduceMul, Nat.reduceBEq, Nat.reduceEqDiff, Nat.reduceLT, Nat.reduceLeDiff, Nat.zero_le, nI_add, nI_mul, nI_cl, qin_eq, qofI, qlg_0, qlg_s, qls_i0, qls_r0, qls_l0, qls_1, qls_2, qkl_i, qkl_r, qkl_l, qkl_n, qIsI_i, qIsL_l, qIsR_r, qint_i, qil_i, qil_r, qil_l, qf4_0, qf4_1, qf4_2, qf4_3, qf2_0, qf2_1, qcs_n, qcs_i, qcs_r, qcs_l, qst_n, qst_c, qJ_0, qJ_st, qJ_go, qfl_I, qfl_Z, qfl_L, qfl_R, qrI_i, qrL_l, qrV_v, qRcv_0, qRcv_s, eq_self, true_and, and_true, true_or, or_true, false_and, and_false, false_or, or_false, ite_true, if_true, if_false, Bool.true_or, Bool.false_or, Bool.or_false, beq_self_eq_true, Bool.false_eq_true, bX10_beginStep_0, bX10_beginStep_12, bX10_beginStep_16, bX10_beginStep_17, bX10_beginStep_33, bX10_beginStep_55, bX10_beginStep_77, bX10_beginStep_152, kX10_beginStep_0, kX10_beginStep_12, kX10_beginStep_16, kX10_beginStep_17, kX10_beginStep_33, kX10_beginStep_55, kX10_beginStep_77, kX10_beginStep_152, qK_66, qR_66_0, qK_50, qR_66_1, qK_67, qR_66_2, qK_73, qK_67, qR_67_3, qK_68, qR_67_4, qK_69, qR_67_5, qK_70, qR_67_6, qK_71, qR_67_7, qK_72, qK_50, qR_50_0, qK_51, qR_50_13, qK_52]
    refine qBI.fn (x_isStep σ hy) (by decide) ?_
    rw [v2, v5]
    simp (disch := omega) only [nI_leI, nI_ltI, nI_eq, nI_cl, qin_eq, nI_add, nI_mul, qb_z, qb_t, qb_f, nI_ne0', Nat.reduceAdd, Bool.false_eq_true, if_false, if_true, true_and, and_true, Nat.reduceEqDiff, not_true_eq_false, not_false_eq_true, false_implies, true_implies, ite_true, ite_false, Bool.not_eq_false, Bool.not_eq_true]
    simp only [decide_eq_true_eq, decide_eq_false_iff_not]
    refine And.symm ⟨fun g => ?_, fun g => ?_⟩
    · have eB : zpBegin B s p = some 2 := by unfold zpBegin; rw [if_pos (by omega)]
      refine qBI.of (x_cannot h) (by decide) (fun v σ1 g1 => ?_)
      obtain ⟨rfl, g1, f1⟩ := g1
      refine ⟨Or.inl rfl, ?_, zPxt_w f1⟩
      rw [eB]
      exact ⟨rfl, g1⟩
    · have k2 := tkY_w (B := B) (p := p) (by omega)
      -- the line is begun
      have good : s.2.2.1 < 30 → ¬ ((tkY B p = 15 ∨ tkY B p = 16) ∧ 3 ≤ s.2.2.2.1) → qV 128 4 (.inl (zXb B n s p σ)) 77 [some (qr 66), some (qi (zkc (tkY B p))), some (qi (qb b))] [] σ := by
        intro g6 g7
        have eB : zpBegin B s p = none := by unfold zpBegin; rw [if_neg (by omega), if_neg (by omega), if_neg (by omega)]
        have fin : ∀ σ1, zXd σ1 B n (tkE B p) → zXj σ1 s (tkY B p) 0 0 0 → zG zPwr zRxt σ σ1 → zXb B n s p σ (nI 1) σ1 := by
          intro σ1 a1 a2 a3
          refine ⟨?_, a3⟩
          rw [eB]
          exact ⟨rfl, a1, a2⟩
        refine qV.go 30 [9999] ok_128 ?_
        simp only [qW_nop, qW_iconst, qW_bipush, qW_iloadn, qW_aloadn, qW_istoren, qW_iadd, qW_isub, qW_dup, qW_ifeq, qW_iceq, qW_ifne, qW_icne, qW_iflt, qW_iclt, qW_icge, qW_goto, qW_getf, qW_iast, qW_cs1_0, qW_cv1_0, qW_cv1_2, qW_cv2_0, qW_cv2_2, qW_iret1, qW_putf0, Nat.reduceAdd, Nat.reduceMul, Nat.reduceBEq, Nat.reduceEqDiff, Nat.reduceLT, Nat.reduceLeDiff, Nat.zero_le, nI_add, nI_mul, nI_cl, qin_eq, qofI, qlg_0, qlg_s, qls_i0, qls_r0, qls_l0, qls_1, qls_2, qkl_i, qkl_r, qkl_l, qkl_n, qIsI_i, qIsL_l, qIsR_r, qint_i, qil_i, qil_r, qil_l, qf4_0, qf4_1, qf4_2, qf4_3, qf2_0, qf2_1, qcs_n, qcs_i, qcs_r, qcs_l, qst_n, qst_c, qJ_0, qJ_st, qJ_go, qfl_I, qfl_Z, qfl_L, qfl_R, qrI_i, qrL_l, qrV_v, qRcv_0, qRcv_s, eq_self, true_and, and_true, true_or, or_true, false_and, and_false, false_or, or_false, ite_true, if_true, if_false, Bool.true_or, Bool.false_or, Bool.or_false, beq_self_eq_true, Bool.false_eq_true, bX10_beginStep_0, bX10_beginStep_12, bX10_beginStep_16, bX10_beginStep_17, bX10_beginStep_33, bX10_beginStep_55, bX10_beginStep_77, bX10_beginStep_152, kX10_beginStep_0, kX10_beginStep_12, kX10_beginStep_16, kX10_beginStep_17, kX10_beginStep_33, kX10_beginStep_55, kX10_beginStep_77, kX10_beginStep_152, qK_66, qR_66_0, qK_50, qR_66_1, qK_67, qR_66_2, qK_73, qK_67, qR_67_3, qK_68, qR_67_4, qK_69, qR_67_5, qK_70, qR_67_6, qK_71, qR_67_7, qK_72, qK_50, qR_50_0, qK_51, qR_50_13, qK_52]
        refine qBV.of (x_next hB hp h) (by decide) (fun σ1 g1 => ?_)
        obtain ⟨d1, f1⟩ := g1
        have f1 := zPxs_t f1
        have F1 := zPxt_w f1
        have V1 := hs.t f1
        refine qBV.of (x_addLine (Or.inl rfl) V1.1.1 (by omega) _) (by decide) (fun σ2 g2 => ?_)
        subst g2
        obtain ⟨b1, b2, b3, b4, b5, b6⟩ := zad_v (σ := σ1) (w := 67) (m := s.2.1) (x := zkc (tkY B p))
        have s2 : (zad σ1 67 s.2.1 (zkc (tkY B p))).1 67 2 = nI s.2.2.1 := by rw [zad_k (by omega) (by omega)]; exact V1.1.2.1
        have s3 : ∀ x, (qwi (zad σ1 67 s.2.1 (zkc (tkY B p))) 67 2 x).1 66 3 = nI s.2.2.2.1 := fun x => by rw [qwi_1, if_neg (by omega), zad_k (by omega) (by omega)]; exact V1.2.2.1
        have s4 : ∀ x, (qwi (zad σ1 67 s.2.1 (zkc (tkY B p))) 67 2 x).1 67 1 = nI (s.2.1 + 1) := fun x => by rw [qwi_1, if_neg (by omega)]; exact b6
        have s5 : ∀ x i y, (qwi (qwi (zad σ1 67 s.2.1 (zkc (tkY B p))) 67 2 x) 73 i y).1 66 3 = nI s.2.2.2.1 := fun x i y => by rw [qwi_1, if_neg (by omega)]; exact s3 x
        rw [s2, nI_add]
        simp only [s3, s4, z0i, qlt, qle, nI_t (show s.2.2.2.1 < 2147483648 by omega), nI_t (show 3 < 2147483648 by decide)]
        have Fa : ∀ x, zG zPwr (fun _ _ => False) σ1 (qwi (zad σ1 67 s.2.1 (zkc (tkY B p))) 67 2 x) := fun x => ⟨fun a j hn => by
          unfold zPwr at hn
          rw [qwi_1, if_neg (by omega), zad_k (by omega) (by omega)], fun a j _ => rfl⟩
        have Da : ∀ {T : qSg}, zG (fun a _ => 66 ≤ a) (fun _ _ => False) σ1 T → zXd T B n (tkE B p) := fun f => d1.o f (fun j _ _ _ hh => by omega) (fun j hh => by omega) (fun j hh => hh) (fun hh => hh)
        have Fb : ∀ x, zG (fun a _ => 66 ≤ a) (fun _ _ => False) σ1 (qwi (zad σ1 67 s.2.1 (zkc (tkY B p))) 67 2 x) := fun x => ⟨fun a j hn => by
          rw [qwi_1, if_neg (by omega), zad_k (by omega) (by omega)], fun a j _ => rfl⟩
        have Fw : ∀ {T : qSg}, zG zPwr (fun _ _ => False) σ1 T → zG zPwr zRxt σ T := fun f => F1.tr (f.wk (fun a j hh => hh) (fun a j hh => hh.elim))
        simp (disch := omega) only [nI_leI, nI_ltI, nI_eq, nI_cl, qin_eq, nI_add, nI_mul, qb_z, qb_t, qb_f, nI_ne0', Nat.reduceAdd, Bool.false_eq_true, if_false, if_true, true_and, and_true, Nat.reduceEqDiff, not_true_eq_false, not_false_eq_true, false_implies, true_implies, ite_true, ite_false, Bool.not_eq_false, Bool.not_eq_true]
        refine And.symm ⟨fun gb => ?_, fun gb => ?_⟩
        · have hbk : tkY B p = 15 ∨ tkY B p = 16 := by rw [hb] at gb; exact of_decide_eq_true gb
          refine ⟨fun hh => by omega, fun _ => ⟨fun hh => by omega, fun _ => ⟨qin_n (by omega) (by decide), ?_⟩⟩⟩
          rw [s5, nI_add, nI_sub (by omega), Nat.add_sub_cancel]
          exact fin _ (Da (((Fb _).tr (zG.wi (by decide))).tr (zG.wi (by decide)))) (zXj.two V1 (by omega) hbk) (Fw (((Fa _).tr (zG.wi (by unfold zPwr; omega))).tr (zG.wi (by unfold zPwr; omega))))
        · have hbk : ¬ (tkY B p = 15 ∨ tkY B p = 16) := by rw [hb] at gb; exact of_decide_eq_false gb
          exact fin _ (Da (Fb _)) (zXj.one V1 (by omega) hbk) (Fw (Fa _))
      refine And.symm ⟨fun g6 => ?_, fun g6 => ?_⟩
      · have eB : zpBegin B s p = some 6 := by unfold zpBegin; rw [if_neg (by omega), if_pos (by omega)]
        refine qBI.of (x_fail h 6) (by decide) (fun v σ1 g1 => ?_)
        obtain ⟨rfl, g1, f1⟩ := g1
        refine ⟨Or.inl rfl, ?_, zPxt_w f1⟩
        rw [eB]
        refine ⟨rfl, ?_⟩
        rw [zno_ne (by omega)]
        exact g1
      · refine ⟨fun gb => good g6 (fun hh => ?_), fun gb => ⟨fun g7 => good g6 (fun hh => by omega), fun g7 => ?_⟩⟩
        · rw [hb] at gb
          exact of_decide_eq_false gb hh.1
        · have hbk : tkY B p = 15 ∨ tkY B p = 16 := by rw [hb] at gb; exact of_decide_eq_true gb
          have eB : zpBegin B s p = some 7 := by unfold zpBegin; rw [if_neg (by omega), if_neg (by omega), if_pos ⟨hbk, by omega⟩]
          refine qBI.of (x_fail h 7) (by decide) (fun v σ1 g1 => ?_)
          obtain ⟨rfl, g1, f1⟩ := g1
          refine ⟨Or.inl rfl, ?_, zPxt_w f1⟩
          rw [eB]
          refine ⟨rfl, ?_⟩
          rw [zno_ne (by omega)]
          exact g1
  refine qV.go 30 [17] ok_128 ?_
  simp only [qW_nop, qW_iconst, qW_bipush, qW_iloadn, qW_aloadn, qW_istoren, qW_iadd, qW_isub, qW_dup, qW_ifeq, qW_iceq, qW_ifne, qW_icne, qW_iflt, qW_iclt, qW_icge, qW_goto, qW_getf, qW_iast, qW_cs1_0, qW_cv1_0, qW_cv1_2, qW_cv2_0, qW_cv2_2, qW_iret1, qW_putf0, Nat.reduceAdd, Nat.reduceMul, Nat.reduceBEq, Nat.reduceEqDiff, Nat.reduceLT, Nat.reduceLeDiff, Nat.zero_le, nI_add, nI_mul, nI_cl, qin_eq, qofI, qlg_0, qlg_s, qls_i0, qls_r0, qls_l0, qls_1, qls_2, qkl_i, qkl_r, qkl_l, qkl_n, qIsI_i, qIsL_l, qIsR_r, qint_i, qil_i, qil_r, qil_l, qf4_0, qf4_1, qf4_2, qf4_3, qf2_0, qf2_1, qcs_n, qcs_i, qcs_r, qcs_l, qst_n, qst_c, qJ_0, qJ_st, qJ_go, qfl_I, qfl_Z, qfl_L, qfl_R, qrI_i, qrL_l, qrV_v, qRcv_0, qRcv_s, eq_self, true_and, and_true, true_or, or_true, false_and, and_false, false_or, or_false, ite_true, if_true, if_false, Bool.true_or, Bool.false_or, Bool.or_false, beq_self_eq_true, Bool.false_eq_true, bX10_beginStep_0, bX10_beginStep_12, bX10_beginStep_16, bX10_beginStep_17, bX10_beginStep_33, bX10_beginStep_55, bX10_beginStep_77, bX10_beginStep_152, kX10_beginStep_0, kX10_beginStep_12, kX10_beginStep_16, kX10_beginStep_17, kX10_beginStep_33, kX10_beginStep_55, kX10_beginStep_77, kX10_beginStep_152, qK_66, qR_66_0, qK_50, qR_66_1, qK_67, qR_66_2, qK_73]
  rw [e15, e16]
  exact ⟨fun g => on true (by rw [decide_eq_true (Or.inl g)]), fun g => ⟨fun g2 => on false (by rw [decide_eq_false (fun hh => hh.elim g g2)]), fun g2 => on true (by rw [decide_eq_true (Or.inr g2)])⟩⟩
/-- an end's line -/
theorem zXv.nd {σ : qSg} {s : zQ} {z : Nat} (V : zXv σ s) (hz : s.2.2.2.2 (s.2.2.2.1 - 1) = z) (hd : 0 < s.2.2.2.1) (hzm : z < s.2.1) : zXv (qwi (qwi (qwi (zad σ 67 s.2.1 (nI 20)) 66 3 (nI (s.2.2.2.1 - 1))) 72 z (nI s.2.1)) 72 s.2.1 (nI z)) (zpush s 17 (zr6 17 0 0 0 0)) := by
  obtain ⟨⟨v1, v2, v3⟩, v4, v5, v6⟩ := V
  obtain ⟨b1, b2, b3, b4, b5, b6⟩ := zad_v (σ := σ) (w := 67) (m := s.2.1) (x := nI 20)
  have e : ∀ a j, ¬ (68 ≤ a ∧ a ≤ 72 ∧ j = s.2.1) → ¬ (a = 67 ∧ j = 1) → ¬ (a = 72 ∧ j = z) → a ≠ 66 → (qwi (qwi (qwi (zad σ 67 s.2.1 (nI 20)) 66 3 (nI (s.2.2.2.1 - 1))) 72 z (nI s.2.1)) 72 s.2.1 (nI z)).1 a j = σ.1 a j := fun a j h1 h2 h3 h4 => by
    rw [qwi_1, if_neg (by omega), qwi_1, if_neg (by omega), qwi_1, if_neg (by omega), zad_k (by omega) (by omega)]
  have e2 : ∀ a j, ¬ (a = 72) → a ≠ 66 → (qwi (qwi (qwi (zad σ 67 s.2.1 (nI 20)) 66 3 (nI (s.2.2.2.1 - 1))) 72 z (nI s.2.1)) 72 s.2.1 (nI z)).1 a j = (zad σ 67 s.2.1 (nI 20)).1 a j := fun a j h1 h2 => by
    rw [qwi_1, if_neg (by omega), qwi_1, if_neg (by omega), qwi_1, if_neg (by omega)]
  have e3 : (qwi (qwi (qwi (zad σ 67 s.2.1 (nI 20)) 66 3 (nI (s.2.2.2.1 - 1))) 72 z (nI s.2.1)) 72 s.2.1 (nI z)).1 66 3 = nI (s.2.2.2.1 - 1) := by
    rw [qwi_1, if_neg (by omega), qwi_1, if_neg (by omega), qwi_1, if_pos ⟨rfl, rfl⟩]
  have e4 : (qwi (qwi (qwi (zad σ 67 s.2.1 (nI 20)) 66 3 (nI (s.2.2.2.1 - 1))) 72 z (nI s.2.1)) 72 s.2.1 (nI z)).1 72 s.2.1 = nI z := by
    rw [qwi_1, if_pos ⟨rfl, rfl⟩]
  have e5 : (qwi (qwi (qwi (zad σ 67 s.2.1 (nI 20)) 66 3 (nI (s.2.2.2.1 - 1))) 72 z (nI s.2.1)) 72 s.2.1 (nI z)).1 72 z = nI s.2.1 := by
    rw [qwi_1, if_neg (by omega), qwi_1, if_pos ⟨rfl, rfl⟩]
  generalize qwi (qwi (qwi (zad σ 67 s.2.1 (nI 20)) 66 3 (nI (s.2.2.2.1 - 1))) 72 z (nI s.2.1)) 72 s.2.1 (nI z) = T at e e2 e3 e4 e5 ⊢
  have rr : ∃ W', zpush s 17 (zr6 17 0 0 0 0) = (W', s.2.1 + 1, s.2.2.1, s.2.2.2.1 - 1, s.2.2.2.2) ∧ (∀ j, j ≠ 4 → W' s.2.1 j = zr6 17 0 0 0 0 j) ∧ W' s.2.1 4 = z ∧ (∀ j, j ≠ 4 → W' z j = s.1 z j) ∧ W' z 4 = s.2.1 ∧ ∀ q, q ≠ s.2.1 → q ≠ z → W' q = s.1 q := by
    refine ⟨fun i j => if i = s.2.1 ∧ j = 4 then z else if i = z ∧ j = 4 then s.2.1 else if i = s.2.1 then zr6 17 0 0 0 0 j else s.1 i j, ?_, fun j hj => ?_, ?_, fun j hj => ?_, ?_, fun q h1 h2 => ?_⟩
    · unfold zpush
      rw [if_neg (by decide), if_pos rfl, hz]
    · dsimp only
      rw [if_neg (by omega), if_neg (by omega), if_pos rfl]
    · dsimp only
      rw [if_pos ⟨rfl, rfl⟩]
    · dsimp only
      rw [if_neg (by omega), if_neg (by omega), if_neg (by omega)]
    · dsimp only
      rw [if_neg (by omega), if_pos ⟨rfl, rfl⟩]
    · funext j
      dsimp only
      rw [if_neg (by omega), if_neg (by omega), if_neg h1]
  obtain ⟨W', ep, r1, r2, r3, r4, r5⟩ := rr
  rw [ep]
  refine ⟨⟨?_, ?_, fun q hq => ?_⟩, ?_, e3, fun i hi => ?_⟩
  · rw [e2 _ _ (by decide) (by decide)]; exact b6
  · rw [e _ _ (by omega) (by omega) (by omega) (by decide)]; exact v2
  · have hq : q < s.2.1 + 1 := hq
    show zXrw T 67 W' q
    by_cases eq : q = s.2.1
    · subst eq
      refine ⟨?_, ?_, ?_, ?_, fun _ => ?_⟩
      · unfold zwk
        rw [r1 0 (by decide), e2 _ _ (by decide) (by decide)]
        exact b1
      · unfold zwa
        rw [r1 0 (by decide), r1 1 (by decide), e2 _ _ (by decide) (by decide)]
        exact b2
      · unfold zwb
        rw [r1 0 (by decide), r1 1 (by decide), r1 5 (by decide), r1 2 (by decide), e2 _ _ (by decide) (by decide)]
        exact b3
      · unfold zwc
        rw [r1 0 (by decide), r1 2 (by decide), r1 3 (by decide), e2 _ _ (by decide) (by decide)]
        exact b4
      · rw [r2]; exact e4
    · by_cases ez : q = z
      · subst ez
        obtain ⟨k1, k2, k3, k4, -⟩ := v3 q hzm
        refine ⟨?_, ?_, ?_, ?_, fun _ => ?_⟩
        · unfold zwk
          rw [r3 0 (by decide), e _ _ (by omega) (by omega) (by omega) (by decide)]
          exact k1
        · unfold zwa
          rw [r3 0 (by decide), r3 1 (by decide), e _ _ (by omega) (by omega) (by omega) (by decide)]
          exact k2
        · unfold zwb
          rw [r3 0 (by decide), r3 1 (by decide), r3 5 (by decide), r3 2 (by decide), e _ _ (by omega) (by omega) (by omega) (by decide)]
          exact k3
        · unfold zwc
          rw [r3 0 (by decide), r3 2 (by decide), r3 3 (by decide), e _ _ (by omega) (by omega) (by omega) (by decide)]
          exact k4
        · rw [r4]; exact e5
      · exact ((v3 q (by omega)).fr fun i a b => e _ _ (by omega) (by omega) (by omega) (by omega)).cg (r5 q eq ez)
  · rw [e _ _ (by omega) (by omega) (by omega) (by decide)]; exact v4
  · have hi : i < s.2.2.2.1 - 1 := hi
    rw [e _ _ (by omega) (by omega) (by omega) (by decide)]
    exact v6 i (by omega)
def zXz (B : Nat → Nat) (N : Nat → List Nat) (n m cells : Nat) (s : zQ) (p : Nat) (σ : qSg) (v : Int32) (σ' : qSg) : Prop := zXo (zpStep B N m cells s p) v σ' (fun r => zXd σ' B n r.2 ∧ zXv σ' r.1) ∧ zG zPwr zRxt σ σ'
set_option maxRecDepth 20000 in
theorem x_takeEnd {σ : qSg} {B : Nat → Nat} {N : Nat → List Nat} {n p boys cells : Nat} {s : zQ} (hB : zBW B n) (hp : p ≤ n) (h : zXd σ B n p) (hs : zXv σ s) (hq : zQW boys cells s) (h17 : tkY B p = 17) : qCI 5 130 [qr 66] σ (zXz B N n boys cells s p σ) := by
  have ht := tkE_spec hB hp
  obtain ⟨hst, hln, hdp, hop, -⟩ := id hq
  have k2 := tkY_w (B := B) (p := p) (by omega)
  refine qCI.of [some (qr 66)] ok_130 (Nat.le_of_ble_eq_true rfl) rfl ?_
  refine qV.go 30 [16, 24] ok_130 ?_
  simp only [qW_nop, qW_iconst, qW_bipush, qW_aloadn, qW_isub, qW_dup, qW_iclt, qW_icle, qW_getf, qW_iald, qW_cv1_0, qW_cv1_2, qW_cv2_2, qW_cv3_2, qW_iret1, qW_putf0, Nat.reduceAdd, Nat.reduceMul, Nat.reduceBEq, Nat.reduceEqDiff, Nat.reduceLT, Nat.reduceLeDiff, Nat.zero_le, nI_add, nI_mul, nI_cl, qin_eq, qofI, qlg_0, qlg_s, qls_i0, qls_r0, qls_l0, qls_1, qls_2, qkl_i, qkl_r, qkl_l, qkl_n, qIsI_i, qIsL_l, qIsR_r, qint_i, qil_i, qil_r, qil_l, qf4_0, qf4_1, qf4_2, qf4_3, qf2_0, qf2_1, qcs_n, qcs_i, qcs_r, qcs_l, qst_n, qst_c, qJ_0, qJ_st, qJ_go, qfl_I, qfl_Z, qfl_L, qfl_R, qrI_i, qrL_l, qrV_v, qRcv_0, qRcv_s, eq_self, true_and, and_true, true_or, or_true, false_and, and_false, false_or, or_false, ite_true, if_true, if_false, Bool.true_or, Bool.false_or, Bool.or_false, beq_self_eq_true, Bool.false_eq_true, bX10_takeEnd_0, bX10_takeEnd_16, bX10_takeEnd_24, kX10_takeEnd_0, kX10_takeEnd_16, kX10_takeEnd_24, qK_66, qR_66_0, qK_50, qR_66_1, qK_67, qR_66_2, qK_73, qK_67, qR_67_3, qK_68, qR_67_4, qK_69, qR_67_5, qK_70, qR_67_6, qK_71, qR_67_7, qK_72, qK_50, qR_50_0, qK_51, qR_50_13, qK_52]
  rw [hs.2.2.1]
  have bad : s.2.2.2.1 = 0 → qV 130 5 (.inl (zXz B N n boys cells s p σ)) 16 [some (qr 66)] [] σ := by
    intro e
    have eB : zpBegin B s p = some 2 := by unfold zpBegin; rw [if_pos (by omega)]
    refine qV.go 30 [9999] ok_130 ?_
    simp only [qW_nop, qW_iconst, qW_bipush, qW_aloadn, qW_isub, qW_dup, qW_iclt, qW_icle, qW_getf, qW_iald, qW_cv1_0, qW_cv1_2, qW_cv2_2, qW_cv3_2, qW_iret1, qW_putf0, Nat.reduceAdd, Nat.reduceMul, Nat.reduceBEq, Nat.reduceEqDiff, Nat.reduceLT, Nat.reduceLeDiff, Nat.zero_le, nI_add, nI_mul, nI_cl, qin_eq, qofI, qlg_0, qlg_s, qls_i0, qls_r0, qls_l0, qls_1, qls_2, qkl_i, qkl_r, qkl_l, qkl_n, qIsI_i, qIsL_l, qIsR_r, qint_i, qil_i, qil_r, qil_l, qf4_0, qf4_1, qf4_2, qf4_3, qf2_0, qf2_1, qcs_n, qcs_i, qcs_r, qcs_l, qst_n, qst_c, qJ_0, qJ_st, qJ_go, qfl_I, qfl_Z, qfl_L, qfl_R, qrI_i, qrL_l, qrV_v, qRcv_0, qRcv_s, eq_self, true_and, and_true, true_or, or_true, false_and, and_false, false_or, or_false, ite_true, if_true, if_false, Bool.true_or, Bool.false_or, Bool.or_false, beq_self_eq_true, Bool.false_eq_true, bX10_takeEnd_0, bX10_takeEnd_16, bX10_takeEnd_24, kX10_takeEnd_0, kX10_takeEnd_16, kX10_takeEnd_24, qK_66, qR_66_0, qK_50, qR_66_1, qK_67, qR_66_2, qK_73, qK_50, qR_50_0, qK_51, qR_50_13, qK_52]
    refine qBI.of (x_cannot h) (by decide) (fun v σ1 g1 => ?_)
    obtain ⟨rfl, g1, f1⟩ := g1
    exact ⟨Or.inl rfl, zXo_l (e := zno B p 2) (by unfold zpStep; rw [eB]) rfl g1, zPxt_w f1⟩
  simp (disch := omega) only [nI_leI, nI_ltI, nI_eq, nI_cl, qin_eq, nI_add, nI_mul, qb_z, qb_t, qb_f, nI_ne0', Nat.reduceAdd, Bool.false_eq_true, if_false, if_true, true_and, and_true, Nat.reduceEqDiff, not_true_eq_false, not_false_eq_true, false_implies, true_implies, ite_true, ite_false]
  refine ⟨fun g => bad (by omega), fun g => ⟨fun g2 => ?_, fun g2 => by omega⟩⟩
  have eB : zpBegin B s p = none := by unfold zpBegin; rw [if_neg (by omega), if_neg (by omega), if_neg (by omega)]
  have eR : zpStep B N boys cells s p = zbd (zpS B 59 (tkE B p)) fun q => .inr (zpush s 17 (zr6 17 0 0 0 0), q) := by
    unfold zpStep
    rw [eB, h17]
    unfold zpRow
    rw [if_neg (by decide), if_neg (by decide), if_neg (by decide), if_neg (by decide), if_neg (by decide), if_neg (by decide)]
    rfl
  refine qV.go 30 [9999] ok_130 ?_
  simp only [qW_nop, qW_iconst, qW_bipush, qW_aloadn, qW_isub, qW_dup, qW_iclt, qW_icle, qW_getf, qW_iald, qW_cv1_0, qW_cv1_2, qW_cv2_2, qW_cv3_2, qW_iret1, qW_putf0, Nat.reduceAdd, Nat.reduceMul, Nat.reduceBEq, Nat.reduceEqDiff, Nat.reduceLT, Nat.reduceLeDiff, Nat.zero_le, nI_add, nI_mul, nI_cl, qin_eq, qofI, qlg_0, qlg_s, qls_i0, qls_r0, qls_l0, qls_1, qls_2, qkl_i, qkl_r, qkl_l, qkl_n, qIsI_i, qIsL_l, qIsR_r, qint_i, qil_i, qil_r, qil_l, qf4_0, qf4_1, qf4_2, qf4_3, qf2_0, qf2_1, qcs_n, qcs_i, qcs_r, qcs_l, qst_n, qst_c, qJ_0, qJ_st, qJ_go, qfl_I, qfl_Z, qfl_L, qfl_R, qrI_i, qrL_l, qrV_v, qRcv_0, qRcv_s, eq_self, true_and, and_true, true_or, or_true, false_and, and_false, false_or, or_false, ite_true, if_true, if_false, Bool.true_or, Bool.false_or, Bool.or_false, beq_self_eq_true, Bool.false_eq_true, bX10_takeEnd_0, bX10_takeEnd_16, bX10_takeEnd_24, kX10_takeEnd_0, kX10_takeEnd_16, kX10_takeEnd_24, qK_66, qR_66_0, qK_50, qR_66_1, qK_67, qR_66_2, qK_73, qK_67, qR_67_3, qK_68, qR_67_4, qK_69, qR_67_5, qK_70, qR_67_6, qK_71, qR_67_7, qK_72, qK_50, qR_50_0, qK_51, qR_50_13, qK_52]
  refine qBV.of (x_next hB hp h) (by decide) (fun σ1 g1 => ?_)
  obtain ⟨d1, f1⟩ := g1
  have f1 := zPxs_t f1
  have F1 := zPxt_w f1
  have V1 := hs.t f1
  refine qBV.of (x_addLine (Or.inl rfl) V1.1.1 (by omega) _) (by decide) (fun σ2 g2 => ?_)
  subst g2
  obtain ⟨b1, b2, b3, b4, b5, b6⟩ := zad_v (σ := σ1) (w := 67) (m := s.2.1) (x := nI 20)
  obtain ⟨z, hz⟩ : ∃ z, s.2.2.2.2 (s.2.2.2.1 - 1) = z := ⟨_, rfl⟩
  have hzm : z < s.2.1 := by rw [← hz]; exact (hop _ (by omega)).1
  have s3 : (zad σ1 67 s.2.1 (nI 20)).1 66 3 = nI s.2.2.2.1 := by rw [zad_k (by omega) (by omega)]; exact V1.2.2.1
  have s4 : ∀ x, (qwi (zad σ1 67 s.2.1 (nI 20)) 66 3 x).1 66 3 = x := fun x => by rw [qwi_1, if_pos ⟨rfl, rfl⟩]
  have s5 : ∀ x, (qwi (zad σ1 67 s.2.1 (nI 20)) 66 3 x).1 67 1 = nI (s.2.1 + 1) := fun x => by rw [qwi_1, if_neg (by omega)]; exact b6
  have s6 : ∀ x, (qwi (zad σ1 67 s.2.1 (nI 20)) 66 3 x).1 73 (s.2.2.2.1 - 1) = nI z := fun x => by rw [qwi_1, if_neg (by omega), zad_k (by omega) (by omega), ← hz]; exact V1.2.2.2 _ (by omega)
  rw [s3, nI_sub (by omega)]
  simp only [s4, s5]
  rw [nI_cl (by omega), s6, nI_sub (by omega), Nat.add_sub_cancel]
  refine ⟨qin_n (by omega) (by decide), ?_⟩
  refine qBV.of (x_join (Or.inl rfl) (s5 _) (by omega) (a := z) (b := s.2.1) (by omega) (by omega)) (by decide) (fun σ3 g3 => ?_)
  subst g3
  have V3 := V1.nd hz (by omega) hzm
  have F3 : zG (fun a _ => 66 ≤ a ∧ a ≤ 73) (fun _ _ => False) σ1 (qwi (qwi (qwi (zad σ1 67 s.2.1 (nI 20)) 66 3 (nI (s.2.2.2.1 - 1))) 72 z (nI s.2.1)) 72 s.2.1 (nI z)) := ⟨fun a j hn => by
    rw [qwi_1, if_neg (by omega), qwi_1, if_neg (by omega), qwi_1, if_neg (by omega), zad_k (by omega) (by omega)], fun a j _ => rfl⟩
  have F3' : zG zPwr zRxt σ1 (qwi (qwi (qwi (zad σ1 67 s.2.1 (nI 20)) 66 3 (nI (s.2.2.2.1 - 1))) 72 z (nI s.2.1)) 72 s.2.1 (nI z)) := ⟨fun a j hn => by
    unfold zPwr at hn
    rw [qwi_1, if_neg (by omega), qwi_1, if_neg (by omega), qwi_1, if_neg (by omega), zad_k (by omega) (by omega)], fun a j _ => rfl⟩
  have d3 := d1.o F3 (fun j _ _ _ hh => by omega) (fun j hh => by omega) (fun j hh => hh) (fun hh => hh)
  refine qBI.of (x_takeStop hB ht.2.2.1 d3) (by decide) (fun v σ4 g4 => ?_)
  obtain ⟨g4, f4⟩ := g4
  have F4 := (F1.tr F3').tr (zPxt_w f4)
  rcases zXo_c g4 with ⟨e, he, rfl, hf⟩ | ⟨u, hu, rfl, d4⟩
  · exact ⟨Or.inl rfl, zXo_l (by rw [eR, he]; rfl) rfl hf, F4⟩
  · exact ⟨Or.inr rfl, zXo_r (a := (zpush s 17 (zr6 17 0 0 0 0), u)) (by rw [eR, hu]; rfl) rfl ⟨d4, V3.t f4⟩, F4⟩
