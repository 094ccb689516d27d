/-! the camp in plain numbers. C 0: how many boys, quarrels, wide, high, odds, the minute; of a boy: C 1 cell, 2 pride, 3 soft, 4 ears, 5 yields; of a quarrel: C 6 one, 7 the other, 8 grudge, 9 over -/
abbrev zC : Type := Nat → Nat → Nat
def zu (C : zC) (f i v : Nat) : zC := fun g j => if g = f ∧ j = i then v else C g j
def zOpen (C : zC) (q : Nat) : Bool := decide (C 9 q = 0)
def zin (C : zC) (q b : Nat) : Bool := decide (C 6 q = b) || decide (C 7 q = b)
def zopens (C : zC) : Nat := bm (C 0 1) (zOpen C)
def zof (C : zC) (b : Nat) : Nat := bm (C 0 1) (fun q => zOpen C q && zin C q b)
def zUp (C : zC) (b : Nat) : Bool := decide (zof C b = 0)
def zups (C : zC) : Nat := bm (C 0 0) (zUp C)
def zdist (a b : Nat) : Nat := (a - b) + (b - a)
def zfar (C : zC) (a b : Nat) : Nat := zdist (C 1 a % C 0 2) (C 1 b % C 0 2) + zdist (C 1 a / C 0 2) (C 1 b / C 0 2)
def znear (C : zC) (b : Nat) : Nat := bm (C 0 0) (fun o => decide (o ≠ b) && decide (zfar C o b ≤ C 4 b))
def zpopf : Nat → Nat → Nat
  | 0, _ => 0
  | f + 1, n => n % 2 + zpopf f (n / 2)
/-- how many ones (numbers below 2^32) -/
def zpop (n : Nat) : Nat := zpopf 32 n
def zdue (C : zC) (b q up : Nat) : Int := (C 8 q : Int) + (C 2 b : Int) - (C 3 b : Int) * (zpop (znear C b &&& up) : Int)
def zW (C : zC) : Prop := C 0 0 ≤ 8 ∧ C 0 1 ≤ 10 ∧ 1 ≤ C 0 2 ∧ C 0 2 ≤ 6 ∧ 1 ≤ C 0 3 ∧ C 0 3 ≤ 6 ∧ C 0 4 ≤ 16 ∧ C 0 5 ≤ 100000 ∧
  (∀ b, b < C 0 0 → C 1 b < C 0 2 * C 0 3 ∧ 1 ≤ C 2 b ∧ C 2 b ≤ 30 ∧ C 3 b ≤ 9 ∧ C 4 b ≤ 9) ∧
  (∀ q, q < C 0 1 → C 6 q < C 0 0 ∧ C 7 q < C 0 0 ∧ C 6 q ≠ C 7 q ∧ C 8 q ≤ 99 ∧ C 9 q ≤ 3)
/-- the reference's slot at s holds the camp -/
def zM (σ : qSg) (s : Nat) (C : zC) : Prop := (∀ j, j < 6 → σ.1 140 (s + j) = nI (C 0 j)) ∧ (∀ b, b < C 0 0 → ∀ f, f < 5 → σ.1 140 (s + (8 + 5 * b + f)) = nI (C (1 + f) b)) ∧
  (∀ q, q < C 0 1 → ∀ f, f < 4 → σ.1 140 (s + (48 + 4 * q + f)) = nI (C (6 + f) q))
theorem zM_s {σ : qSg} {C : zC} (h : zM σ 0 C) (j : Nat) (hj : j < 6) : σ.1 140 j = nI (C 0 j) := by
  have := h.1 j hj
  rwa [Nat.zero_add] at this
theorem zM_b {σ : qSg} {C : zC} (h : zM σ 0 C) {b f : Nat} (hb : b < C 0 0) (hf : f < 5) : σ.1 140 (8 + 5 * b + f) = nI (C (1 + f) b) := by
  have := h.2.1 b hb f hf
  rwa [Nat.zero_add] at this
theorem zM_q {σ : qSg} {C : zC} (h : zM σ 0 C) {q f : Nat} (hq : q < C 0 1) (hf : f < 4) : σ.1 140 (48 + 4 * q + f) = nI (C (6 + f) q) := by
  have := h.2.2 q hq f hf
  rwa [Nat.zero_add] at this

theorem zMq0 {σ : qSg} {C : zC} (h : zM σ 0 C) {q : Nat} (hq : q < C 0 1) : σ.1 140 (48 + 4 * q + 0) = nI (C 6 q) := zM_q h hq (f := 0) (by decide)
theorem zMq1 {σ : qSg} {C : zC} (h : zM σ 0 C) {q : Nat} (hq : q < C 0 1) : σ.1 140 (48 + 4 * q + 1) = nI (C 7 q) := zM_q h hq (f := 1) (by decide)
theorem zMq2 {σ : qSg} {C : zC} (h : zM σ 0 C) {q : Nat} (hq : q < C 0 1) : σ.1 140 (48 + 4 * q + 2) = nI (C 8 q) := zM_q h hq (f := 2) (by decide)
theorem zMq3 {σ : qSg} {C : zC} (h : zM σ 0 C) {q : Nat} (hq : q < C 0 1) : σ.1 140 (48 + 4 * q + 3) = nI (C 9 q) := zM_q h hq (f := 3) (by decide)
theorem zMb0 {σ : qSg} {C : zC} (h : zM σ 0 C) {b : Nat} (hb : b < C 0 0) : σ.1 140 (8 + 5 * b + 0) = nI (C 1 b) := zM_b h hb (f := 0) (by decide)
theorem zMb1 {σ : qSg} {C : zC} (h : zM σ 0 C) {b : Nat} (hb : b < C 0 0) : σ.1 140 (8 + 5 * b + 1) = nI (C 2 b) := zM_b h hb (f := 1) (by decide)
theorem zMb2 {σ : qSg} {C : zC} (h : zM σ 0 C) {b : Nat} (hb : b < C 0 0) : σ.1 140 (8 + 5 * b + 2) = nI (C 3 b) := zM_b h hb (f := 2) (by decide)
theorem zMb3 {σ : qSg} {C : zC} (h : zM σ 0 C) {b : Nat} (hb : b < C 0 0) : σ.1 140 (8 + 5 * b + 3) = nI (C 4 b) := zM_b h hb (f := 3) (by decide)
theorem zMb4 {σ : qSg} {C : zC} (h : zM σ 0 C) {b : Nat} (hb : b < C 0 0) : σ.1 140 (8 + 5 * b + 4) = nI (C 5 b) := zM_b h hb (f := 4) (by decide)
theorem zpopf_0 (f : Nat) : zpopf f 0 = 0 := by
  induction f with
  | zero => rfl
  | succ f ih => simp [zpopf, ih]
theorem zpopf_clear : ∀ (f n : Nat), n ≠ 0 → n < 2 ^ f → zpopf f (n &&& (n - 1)) + 1 = zpopf f n
  | 0, n, h0, h => by omega
  | f + 1, n, h0, h => by
    simp only [zpopf]
    rw [Nat.and_div_two]
    have hl : n / 2 < 2 ^ f := by rw [Nat.pow_succ] at h; omega
    rcases Nat.mod_two_eq_zero_or_one n with h1 | h1
    · have e1 : (n &&& (n - 1)) % 2 = 0 := by
        have h3 : ¬ (n &&& (n - 1)) % 2 = 1 := by rw [Nat.and_mod_two_eq_one]; omega
        omega
      rw [e1, show (n - 1) / 2 = n / 2 - 1 by omega, h1]
      have := zpopf_clear f (n / 2) (by omega) hl
      omega
    · have e1 : (n &&& (n - 1)) % 2 = 0 := by
        have h3 : ¬ (n &&& (n - 1)) % 2 = 1 := by rw [Nat.and_mod_two_eq_one]; omega
        omega
      rw [e1, show (n - 1) / 2 = n / 2 by omega, Nat.and_self, h1]
      omega
theorem zpop_clear {n : Nat} (h0 : n ≠ 0) (h : n < 4294967296) : zpop (n &&& (n - 1)) + 1 = zpop n := zpopf_clear 32 n h0 h
theorem zpop_0 : zpop 0 = 0 := zpopf_0 32
theorem zpopf_le : ∀ (f n k : Nat), n < 2 ^ k → zpopf f n ≤ k
  | 0, _, _, _ => Nat.zero_le _
  | f + 1, n, 0, h => by
    have : n = 0 := by omega
    subst this
    simp [zpopf, zpopf_0]
  | f + 1, n, k + 1, h => by
    simp only [zpopf]
    have := zpopf_le f (n / 2) k (by rw [Nat.pow_succ] at h; omega)
    omega
theorem zpop_le {n k : Nat} (h : n < 2 ^ k) : zpop n ≤ k := zpopf_le 32 n k h
theorem zpopf_pos : ∀ (f n : Nat), n ≠ 0 → n < 2 ^ f → 0 < zpopf f n
  | 0, n, h0, h => by omega
  | f + 1, n, h0, h => by
    simp only [zpopf]
    rcases Nat.mod_two_eq_zero_or_one n with h1 | h1
    · have := zpopf_pos f (n / 2) (by omega) (by rw [Nat.pow_succ] at h; omega)
      omega
    · omega
theorem znear_lt {C : zC} (hw : zW C) (b : Nat) : znear C b < 256 := Nat.lt_of_lt_of_le (bm_lt _ _) (Nat.pow_le_pow_right (by decide) hw.1 : 2 ^ C 0 0 ≤ 2 ^ 8)
theorem zopens_lt {C : zC} (hw : zW C) : zopens C < 1024 := Nat.lt_of_lt_of_le (bm_lt _ _) (Nat.pow_le_pow_right (by decide) hw.2.1 : 2 ^ C 0 1 ≤ 2 ^ 10)
theorem zof_lt {C : zC} (hw : zW C) (b : Nat) : zof C b < 1024 := Nat.lt_of_lt_of_le (bm_lt _ _) (Nat.pow_le_pow_right (by decide) hw.2.1 : 2 ^ C 0 1 ≤ 2 ^ 10)
theorem zups_lt {C : zC} (hw : zW C) : zups C < 256 := Nat.lt_of_lt_of_le (bm_lt _ _) (Nat.pow_le_pow_right (by decide) hw.1 : 2 ^ C 0 0 ≤ 2 ^ 8)
theorem zand_lt {a b n : Nat} (h : a < n) : a &&& b < n := Nat.lt_of_le_of_lt Nat.and_le_left h
theorem zdue_bd {C : zC} (hw : zW C) {b q up : Nat} (hb : b < C 0 0) (hq : q < C 0 1) : -72 ≤ zdue C b q up ∧ zdue C b q up ≤ 129 := by
  obtain ⟨wb, wq, ww1, ww2, wh1, wh2, wo, wm, wB, wQ⟩ := id hw
  have g := wQ q hq
  have g2 := wB b hb
  have h1 : zpop (znear C b &&& up) ≤ 8 := zpop_le (zand_lt (znear_lt hw b))
  have h2 : C 3 b * zpop (znear C b &&& up) ≤ 9 * 8 := Nat.mul_le_mul g2.2.2.2.1 h1
  unfold zdue
  have h3 : (C 3 b : Int) * (zpop (znear C b &&& up) : Int) = ((C 3 b * zpop (znear C b &&& up) : Nat) : Int) := by push_cast; rfl
  rw [h3]
  omega
def zsum : Nat → (Nat → Nat) → Nat
  | 0, _ => 0
  | n + 1, f => zsum n f + f n
def zboth (C : zC) (q : Nat) : Nat := 2 ^ C 6 q ||| 2 ^ C 7 q
theorem zboth_bit (C : zC) (q b : Nat) : (zboth C q).testBit b = zin C q b := by
  unfold zboth zin
  rw [Nat.testBit_or, Nat.testBit_two_pow, Nat.testBit_two_pow]
theorem zpow_lt {k : Nat} (h : k < 8) : 2 ^ k < 256 := by
  have := Nat.pow_lt_pow_right (a := 2) (by decide) h
  simpa using this
theorem zboth_lt {C : zC} (hw : zW C) {q : Nat} (hq : q < C 0 1) : zboth C q < 256 := by
  have g := hw.2.2.2.2.2.2.2.2.2 q hq
  have hb := hw.1
  exact Nat.or_lt_two_pow (n := 8) (zpow_lt (by omega)) (zpow_lt (by omega))
