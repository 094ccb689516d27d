/-! minutes, in plain numbers -/
theorem znear_congr {C C' : zC} (h : ∀ f i, f ≠ 9 → f ≠ 5 → C' f i = C f i) (b : Nat) : znear C' b = znear C b := by
  unfold znear zfar
  simp only [h 0 _ (by decide) (by decide), h 1 _ (by decide) (by decide), h 4 _ (by decide) (by decide)]
theorem znear_congr5 {C C' : zC} (h : ∀ f i, f ≠ 9 → f ≠ 5 → (f, i) ≠ (0, 5) → C' f i = C f i) (b : Nat) : znear C' b = znear C b := by
  unfold znear zfar
  simp only [h 0 0 (by decide) (by decide) (by decide), h 0 2 (by decide) (by decide) (by decide), h 1 _ (by decide) (by decide) (by simp), h 4 _ (by decide) (by decide) (by simp)]
theorem zdue_congr5 {C C' : zC} (h : ∀ f i, f ≠ 9 → f ≠ 5 → (f, i) ≠ (0, 5) → C' f i = C f i) (b q up : Nat) : zdue C' b q up = zdue C b q up := by
  unfold zdue
  rw [znear_congr5 h, h 8 _ (by decide) (by decide) (by simp), h 2 _ (by decide) (by decide) (by simp), h 3 _ (by decide) (by decide) (by simp)]
theorem zwho_congr {C C' : zC} (h : ∀ f i, f ≠ 9 → f ≠ 5 → C' f i = C f i) (up q : Nat) : zwho C' up q = zwho C up q := by
  unfold zwho
  rw [zdue_congr5 (fun f i a b _ => h f i a b), zdue_congr5 (fun f i a b _ => h f i a b), h 6 _ (by decide) (by decide), h 7 _ (by decide) (by decide), h 0 _ (by decide) (by decide)]
theorem zmf_9' (C : zC) (up i : Nat) : ∀ q, i < q → (zmf up C q).1 9 i = if C 9 i = 0 then zwho C up i else C 9 i
  | 0, h => absurd h (by omega)
  | q + 1, h => by
    by_cases hi : i < q
    · have ih := zmf_9' C up i q hi
      simp only [zmf, zms]
      split
      · show zend _ _ _ 9 i = _
        rw [zend_9, if_neg (by omega)]; exact ih
      · exact ih
    · have e : i = q := by omega
      subst e
      have e1 := zmf_9 C up i i (Nat.le_refl _)
      have e2 := zwho_congr (fun f j h9 h5 => zmf_q C up f j h9 h5 i) up i
      simp only [zmf, zms, zOpen, e1, e2]
      by_cases h0 : C 9 i = 0
      · by_cases h1 : zwho C up i = 0
        · simp [h0, h1, e1]
        · rw [if_pos (by simp [h0, h1])]
          show zend _ _ _ 9 i = _
          rw [zend_9, if_pos rfl, if_pos h0]
      · simp [h0, e1]
/-- what a minute leaves -/
theorem zmin_q (C : zC) (f i : Nat) (h9 : f ≠ 9) (h5 : f ≠ 5) (h0 : (f, i) ≠ (0, 5)) : (zmin C).1 f i = C f i := by
  unfold zmin
  show zu (zmf (zups C) C (C 0 1)).1 0 5 (C 0 5 + 1) f i = _
  rw [zu_ne (by intro e; exact h0 (by rw [e.1, e.2])), zmf_q _ _ _ _ h9 h5]
theorem zmin_clock (C : zC) : (zmin C).1 0 5 = C 0 5 + 1 := by
  unfold zmin
  exact zu_eq (C := (zmf (zups C) C (C 0 1)).1) (f := 0) (i := 5) (v := C 0 5 + 1)
theorem zmin_9 (C : zC) (q : Nat) (hq : q < C 0 1) : (zmin C).1 9 q = if C 9 q = 0 then zwho C (zups C) q else C 9 q := by
  unfold zmin
  show zu (zmf (zups C) C (C 0 1)).1 0 5 (C 0 5 + 1) 9 q = _
  rw [zu_ne (by omega), zmf_9' _ _ _ _ hq]
theorem zmin_W {C : zC} (hw : zW C) (hm : C 0 5 < 100000) : zW (zmin C).1 := by
  obtain ⟨wb, wq, ww1, ww2, wh1, wh2, wo, wm, wB, wQ⟩ := zmf_W hw (zups C) (C 0 1)
  have e : ∀ f i, (f, i) ≠ (0, 5) → (zmin C).1 f i = (zmf (zups C) C (C 0 1)).1 f i := fun f i h0 => zu_ne (by intro e; exact h0 (by rw [e.1, e.2]))
  refine ⟨?_, ?_, ?_, ?_, ?_, ?_, ?_, ?_, fun b hb => ?_, fun q hq => ?_⟩
  · rw [e 0 0 (by decide)]; exact wb
  · rw [e 0 1 (by decide)]; exact wq
  · rw [e 0 2 (by decide)]; exact ww1
  · rw [e 0 2 (by decide)]; exact ww2
  · rw [e 0 3 (by decide)]; exact wh1
  · rw [e 0 3 (by decide)]; exact wh2
  · rw [e 0 4 (by decide)]; exact wo
  · rw [zmin_clock]; omega
  · rw [e 0 0 (by decide)] at hb
    rw [e 1 b (by simp), e 2 b (by simp), e 3 b (by simp), e 4 b (by simp), e 0 2 (by decide), e 0 3 (by decide)]
    exact wB b hb
  · rw [e 0 1 (by decide)] at hq
    rw [e 6 q (by simp), e 7 q (by simp), e 8 q (by simp), e 9 q (by simp), e 0 0 (by decide)]
    exact wQ q hq
/-- n minutes: the camp, how many are over by them -/
def zmins : Nat → zC → zC × Nat
  | 0, C => (C, 0)
  | n + 1, C => ((zmin (zmins n C).1).1, (zmins n C).2 + (zmin (zmins n C).1).2.1)
def zit (n : Nat) (C : zC) : zC := (zmins n C).1
theorem zit_0 (C : zC) : zit 0 C = C := rfl
theorem zit_s (n : Nat) (C : zC) : zit (n + 1) C = (zmin (zit n C)).1 := rfl
theorem zit_clock (C : zC) : ∀ n, zit n C 0 5 = C 0 5 + n
  | 0 => rfl
  | n + 1 => by rw [zit_s, zmin_clock, zit_clock C n]; rfl
theorem zit_q (C : zC) (f i : Nat) (h9 : f ≠ 9) (h5 : f ≠ 5) (h0 : (f, i) ≠ (0, 5)) : ∀ n, zit n C f i = C f i
  | 0 => rfl
  | n + 1 => by rw [zit_s, zmin_q _ _ _ h9 h5 h0, zit_q C f i h9 h5 h0 n]
theorem zit_W {C : zC} (hw : zW C) : ∀ n, C 0 5 + n ≤ 100000 → zW (zit n C)
  | 0, _ => hw
  | n + 1, h => by rw [zit_s]; exact zmin_W (zit_W hw n (by omega)) (by rw [zit_clock]; omega)
-- who is over stays over
theorem zit_over {C : zC} {q : Nat} (hq : q < C 0 1) : ∀ n m, n ≤ m → zit n C 9 q ≠ 0 → zit m C 9 q = zit n C 9 q := by
  intro n m hnm h
  induction m with
  | zero => rw [show n = 0 by omega]
  | succ m ih =>
    by_cases e : n = m + 1
    · rw [e]
    · have := ih (by omega)
      rw [zit_s, zmin_9 _ _ (by rw [zit_q _ _ _ (by decide) (by decide) (by decide)]; exact hq), this, if_neg h]
theorem zUp_iff (C : zC) (b : Nat) : zUp C b = true ↔ ∀ q, q < C 0 1 → zin C q b = true → C 9 q ≠ 0 := by
  unfold zUp zof
  rw [decide_eq_true_eq]
  constructor
  · intro h q hq hin h0
    have := bm_bit (C 0 1) (fun q => zOpen C q && zin C q b) q
    rw [h, Nat.zero_testBit] at this
    simp [hq, hin, zOpen, h0] at this
  · intro h
    apply Nat.eq_of_testBit_eq
    intro i
    rw [bm_bit, Nat.zero_testBit]
    by_cases hi : i < C 0 1
    · by_cases hin : zin C i b = true
      · simp [zOpen, h i hi hin]
      · simp [hin]
    · simp [hi]
theorem zin_it (C : zC) (n q b : Nat) : zin (zit n C) q b = zin C q b := by
  unfold zin
  rw [zit_q _ _ _ (by decide) (by decide) (by simp), zit_q _ _ _ (by decide) (by decide) (by simp)]
theorem zUp_mono {C : zC} {b n m : Nat} (hnm : n ≤ m) (h : zUp (zit n C) b = true) : zUp (zit m C) b = true := by
  rw [zUp_iff] at h ⊢
  intro q hq hin
  have e1 : zit m C 0 1 = C 0 1 := zit_q _ _ _ (by decide) (by decide) (by decide) m
  have e2 : zit n C 0 1 = C 0 1 := zit_q _ _ _ (by decide) (by decide) (by decide) n
  rw [e1] at hq
  rw [zin_it] at hin
  have := h q (by rw [e2]; exact hq) (by rw [zin_it]; exact hin)
  rw [zit_over hq n m hnm this]
  exact this
/-- behind so many minutes all is over -/
theorem zit_end {C : zC} (hw : zW C) {n : Nat} (hn : 130 ≤ n) (hm : C 0 5 + n ≤ 100000) {q : Nat} (hq : q < C 0 1) : zit n C 9 q ≠ 0 := by
  have key : zit 130 C 9 q ≠ 0 := by
    rw [show (130 : Nat) = 129 + 1 from rfl, zit_s, zmin_9 _ _ (by rw [zit_q _ _ _ (by decide) (by decide) (by decide)]; exact hq)]
    split
    · have hw' := zit_W hw 129 (by omega)
      have hq' : q < zit 129 C 0 1 := by rw [zit_q _ _ _ (by decide) (by decide) (by decide)]; exact hq
      have g := hw'.2.2.2.2.2.2.2.2.2 q hq'
      have b1 := zdue_bd hw' (b := zit 129 C 6 q) (q := q) (up := zups (zit 129 C)) (by omega) hq'
      have c := zit_clock C 129
      unfold zwho
      rw [if_pos (by omega)]
      omega
    · assumption
  rw [zit_over hq 130 n hn key]
  exact key
theorem zUp_end {C : zC} (hw : zW C) {n : Nat} (hn : 130 ≤ n) (hm : C 0 5 + n ≤ 100000) (b : Nat) : zUp (zit n C) b = true := by
  rw [zUp_iff]
  intro q hq _
  rw [zit_q _ _ _ (by decide) (by decide) (by decide)] at hq
  exact zit_end hw hn hm hq
/-- the first number from n on, within f, for which p holds -/
def zlst (p : Nat → Bool) : Nat → Nat → Nat
  | 0, n => n
  | f + 1, n => if p n then n else zlst p f (n + 1)
theorem zlst_is (p : Nat → Bool) : ∀ (f n v : Nat), n ≤ v → v < n + f → p v = true → (∀ m, n ≤ m → m < v → p m = false) → zlst p f n = v
  | 0, n, v, h1, h2, _, _ => by omega
  | f + 1, n, v, h1, h2, h3, h4 => by
    simp only [zlst]
    by_cases e : n = v
    · subst e; rw [if_pos h3]
    · rw [if_neg (by rw [h4 n (Nat.le_refl _) (by omega)]; decide)]
      exact zlst_is p f (n + 1) v (by omega) (by omega) h3 (fun m g1 g2 => h4 m (by omega) g2)
theorem zlst_spec (p : Nat → Bool) : ∀ (f n N : Nat), n ≤ N → N < n + f → p N = true → n ≤ zlst p f n ∧ zlst p f n ≤ N ∧ p (zlst p f n) = true ∧ ∀ m, n ≤ m → m < zlst p f n → p m = false
  | 0, n, N, h1, h2, _ => by omega
  | f + 1, n, N, h1, h2, h3 => by
    simp only [zlst]
    by_cases e : p n = true
    · rw [if_pos e]; exact ⟨Nat.le_refl _, h1, e, fun m g1 g2 => by omega⟩
    · rw [if_neg e]
      have hN : n ≠ N := fun q => e (q ▸ h3)
      have := zlst_spec p f (n + 1) N (by omega) (by omega) h3
      refine ⟨by omega, this.2.1, this.2.2.1, fun m g1 g2 => ?_⟩
      by_cases em : m = n
      · subst em; simpa using e
      · exact this.2.2.2 m (by omega) g2
-- sets within sets
def zsub (s u : Nat) : Bool := decide (s &&& u = s)
theorem zsub_iff (s u : Nat) : zsub s u = true ↔ ∀ i, s.testBit i = true → u.testBit i = true := by
  unfold zsub
  rw [decide_eq_true_eq]
  constructor
  · intro h i hi
    have := congrArg (fun x => x.testBit i) h
    simp only [Nat.testBit_and, hi, Bool.true_and] at this
    exact this
  · intro h
    apply Nat.eq_of_testBit_eq
    intro i
    rw [Nat.testBit_and]
    by_cases hi : s.testBit i = true
    · rw [hi, h i hi]; rfl
    · simp [hi]
theorem nI_notin (s u : Nat) : nI s &&& (nI u ^^^ iI (-1)) = nI (s ^^^ (s &&& u)) := by
  unfold nI iI
  apply Int32.toBitVec_inj.mp
  have h1 : (Int32.ofInt (-1)).toBitVec = BitVec.allOnes 32 := by decide
  simp only [Int32.toBitVec_and, Int32.toBitVec_xor, h1, Int32.toBitVec_ofNat', BitVec.ofNat_xor, BitVec.ofNat_and]
  ext i hi
  simp only [BitVec.getElem_and, BitVec.getElem_xor, BitVec.getElem_allOnes]
  cases (BitVec.ofNat 32 s)[i] <;> cases (BitVec.ofNat 32 u)[i] <;> rfl
theorem zxor_0 (s u : Nat) : (s ^^^ (s &&& u) = 0) = (zsub s u = true) := by
  apply propext
  unfold zsub
  rw [decide_eq_true_eq]
  constructor
  · intro h
    apply Nat.eq_of_testBit_eq
    intro i
    have := congrArg (fun x => x.testBit i) h
    simp only [Nat.testBit_xor, Nat.zero_testBit] at this
    revert this
    cases s.testBit i <;> cases (s &&& u).testBit i <;> simp
  · intro h
    rw [h, Nat.xor_self]
theorem zxor_lt {s u n : Nat} (hs : s < 2 ^ n) : s ^^^ (s &&& u) < 2 ^ n := Nat.xor_lt_two_pow hs (Nat.lt_of_le_of_lt Nat.and_le_left hs)
theorem nI_notin0 {s u : Nat} (hs : s < 2147483648) : (nI s &&& (nI u ^^^ iI (-1)) = 0) = (zsub s u = true) := by
  rw [nI_notin, nI_ne0' (zxor_lt (n := 31) hs), zxor_0]
-- copying within the reference's numbers
def zmv (σ : qSg) (a src dst n : Nat) : qSg := (fun c j => if c = a ∧ dst ≤ j ∧ j < dst + n then σ.1 a (src + (j - dst)) else σ.1 c j, σ.2)
theorem zmv_0 (σ : qSg) (a src dst : Nat) : zmv σ a src dst 0 = σ := by
  unfold zmv
  refine Prod.ext ?_ rfl
  funext c j
  exact if_neg (by omega)
theorem zmv_s {σ : qSg} {a src dst k : Nat} (h : src + k < dst ∨ dst + k ≤ src + k) : qwi (zmv σ a src dst k) a (dst + k) ((zmv σ a src dst k).1 a (src + k)) = zmv σ a src dst (k + 1) := by
  refine Prod.ext ?_ rfl
  funext c j
  rw [qwi_1]
  by_cases e : c = a ∧ j = dst + k
  · obtain ⟨rfl, rfl⟩ := e
    rw [if_pos ⟨rfl, rfl⟩]
    have e1 : ¬ (True ∧ dst ≤ src + k ∧ src + k < dst + k) := by omega
    have e2 : True ∧ dst ≤ dst + k ∧ dst + k < dst + (k + 1) := ⟨trivial, by omega, by omega⟩
    simp only [zmv]
    rw [if_neg e1, if_pos e2, show dst + k - dst = k by omega]
  · rw [if_neg e]
    simp only [zmv]
    by_cases e2 : c = a ∧ dst ≤ j ∧ j < dst + k
    · rw [if_pos e2, if_pos (by omega)]
    · rw [if_neg e2, if_neg (by omega)]
