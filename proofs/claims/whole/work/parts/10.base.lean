/-! numbers and truth values -/
def qb (b : Bool) : Int32 := if b then nI 1 else nI 0
theorem qb_z (b : Bool) : (qb b = 0) = (b = false) := by cases b <;> simp [qb, nI]
theorem qb_t : qb true = nI 1 := rfl
theorem qb_f : qb false = nI 0 := rfl
theorem qb_01 (b : Bool) : qb b = nI 0 ∨ qb b = nI 1 := by cases b <;> simp [qb]
def iI (z : Int) : Int32 := Int32.ofInt z
theorem qofI (z : Int) : Int32.ofInt z = iI z := rfl
theorem iI_nat (n : Nat) : nI n = iI (n : Int) := by
  unfold nI iI
  exact (Int32.ofInt_eq_ofNat).symm
theorem iI_add (a b : Int) : iI a + iI b = iI (a + b) := (Int32.ofInt_add a b).symm
theorem iI_sub (a b : Int) : iI a - iI b = iI (a - b) := (Int32.ofInt_sub a b).symm
theorem iI_mul (a b : Int) : iI a * iI b = iI (a * b) := (Int32.ofInt_mul a b).symm
theorem iI_neg (a : Int) : -(iI a) = iI (-a) := (Int32.ofInt_neg a).symm
theorem iI_toInt {z : Int} (h1 : -2147483648 ≤ z) (h2 : z < 2147483648) : (iI z).toInt = z := Int32.toInt_ofInt_of_le h1 h2
theorem iI_self (x : Int32) : iI x.toInt = x := Int32.ofInt_toInt x
theorem nI_mul (a b : Nat) : nI a * nI b = nI (a * b) := by
  rw [iI_nat, iI_nat, iI_nat, iI_mul]
  congr 1
theorem nI_sub {a b : Nat} (h : b ≤ a) : nI a - nI b = nI (a - b) := by
  rw [iI_nat, iI_nat, iI_nat, iI_sub]
  congr 1
  omega
theorem qx_range (x : Int32) : -2147483648 ≤ x.toInt ∧ x.toInt < 2147483648 := ⟨Int32.le_toInt x, Int32.toInt_lt x⟩
/-- an argument in a range is a number -/
theorem qarg {x : Int32} {n : Nat} (hn : n < 2147483648) (h1 : ¬ x < 0) (h2 : ¬ nI n ≤ x) : ∃ k, k < n ∧ x = nI k := by
  rw [Int32.lt_iff_toInt_lt] at h1
  rw [Int32.le_iff_toInt_le, nI_toInt hn] at h2
  have h0 : (0 : Int32).toInt = 0 := rfl
  rw [h0] at h1
  refine ⟨x.toInt.toNat, by omega, ?_⟩
  apply Int32.toInt_inj.mp
  rw [nI_toInt (by omega)]
  omega
theorem qlt0 (x : Int32) : (x < 0) = (x.toInt < 0) := by rw [Int32.lt_iff_toInt_lt]; rfl
theorem qge0 (x : Int32) : (0 ≤ x) = (0 ≤ x.toInt) := by rw [Int32.le_iff_toInt_le]; rfl
theorem qgt0 (x : Int32) : (0 < x) = (0 < x.toInt) := by rw [Int32.lt_iff_toInt_lt]; rfl
theorem qle0 (x : Int32) : (x ≤ 0) = (x.toInt ≤ 0) := by rw [Int32.le_iff_toInt_le]; rfl
theorem qlt (x y : Int32) : (x < y) = (x.toInt < y.toInt) := by rw [Int32.lt_iff_toInt_lt]
theorem qle (x y : Int32) : (x ≤ y) = (x.toInt ≤ y.toInt) := by rw [Int32.le_iff_toInt_le]
theorem qeq (x y : Int32) : (x = y) = (x.toInt = y.toInt) := by rw [Int32.toInt_inj]
theorem qin_n {n k : Nat} (h : k < n) (hn : n ≤ 2147483648) : qin (nI k) n := by
  refine ⟨nI_pos (by omega), ?_⟩
  rw [nI_clamp (by omega)]
  exact h
theorem qin_eq {k n : Nat} (h : k < n) (hn : n ≤ 2147483648) : qin (nI k) n = True := eq_true (qin_n h hn)
theorem nI_cl {n : Nat} (h : n < 2147483648) : (nI n).toNatClampNeg = n := nI_clamp h
theorem nI_c {n : Nat} (h : n < 2147483648) : (nI n).toNatClampNeg = n := nI_clamp h
theorem nI_t {n : Nat} (h : n < 2147483648) : (nI n).toInt = n := nI_toInt h

-- sets as numbers
def bm : Nat → (Nat → Bool) → Nat
  | 0, _ => 0
  | n + 1, P => (if P n then 2 ^ n else 0) + bm n P
theorem bm_lt (n : Nat) (P : Nat → Bool) : bm n P < 2 ^ n := by
  induction n with
  | zero => simp [bm]
  | succ n ih =>
    simp only [bm]
    rw [Nat.pow_succ]
    split <;> omega
theorem bm_congr {n : Nat} {P Q : Nat → Bool} (h : ∀ k, k < n → P k = Q k) : bm n P = bm n Q := by
  induction n with
  | zero => rfl
  | succ n ih => simp only [bm]; rw [h n (by omega), ih (fun k hk => h k (by omega))]
theorem bm_bit (n : Nat) (P : Nat → Bool) (k : Nat) : (bm n P).testBit k = (decide (k < n) && P k) := by
  induction n with
  | zero => simp [bm]
  | succ n ih =>
    have hl := bm_lt n P
    simp only [bm]
    by_cases hp : P n = true
    · rw [if_pos hp, show 2 ^ n + bm n P = 2 ^ n * 1 + bm n P by omega, Nat.testBit_two_pow_mul_add 1 hl k]
      by_cases hkn : k < n
      · rw [if_pos hkn, ih]
        simp [hkn, Nat.lt_succ_of_lt hkn]
      · rw [if_neg hkn]
        by_cases hk : k = n
        · subst hk
          simp [hp]
        · rw [show (1 : Nat) = 2 ^ 0 from rfl, Nat.testBit_two_pow]
          simp [show ¬ k < n + 1 by omega, show ¬ 0 = k - n by omega]
    · rw [if_neg hp, Nat.zero_add, ih]
      by_cases hk : k = n
      · subst hk; simp [hp]
      · by_cases hkn : k < n
        · simp [hkn, Nat.lt_succ_of_lt hkn]
        · simp [hkn, show ¬ k < n + 1 by omega]
theorem qshl1 {k : Nat} (h : k < 31) : nI 1 <<< (nI k &&& 31) = nI (2 ^ k) := by
  have : ∀ k, k < 31 → nI 1 <<< (nI k &&& 31) = nI (2 ^ k) := by decide +kernel
  exact this k h
theorem nI_or (a b : Nat) : nI a ||| nI b = nI (a ||| b) := by
  unfold nI
  apply Int32.toBitVec_inj.mp
  simp
theorem nI_and (a b : Nat) : nI a &&& nI b = nI (a &&& b) := by
  unfold nI
  apply Int32.toBitVec_inj.mp
  simp
theorem bm_or (n : Nat) (P : Nat → Bool) : bm n P ||| 2 ^ n = 2 ^ n + bm n P := by
  have := Nat.two_pow_add_eq_or_of_lt (bm_lt n P) 1
  rw [Nat.mul_one] at this
  rw [this, Nat.or_comm]
/-- a loop that adds a place to a set -/
theorem qset_add {n : Nat} {P : Nat → Bool} (hn : n < 31) (h : P n = true) : nI (bm n P) ||| (nI 1 <<< (nI n &&& 31)) = nI (bm (n + 1) P) := by
  rw [qshl1 hn, nI_or, bm_or]
  simp only [bm, h, if_true]
theorem qset_not {n : Nat} {P : Nat → Bool} (h : P n = false) : nI (bm n P) = nI (bm (n + 1) P) := by
  simp only [bm, h]
  simp
theorem qdown {P : Nat → Prop} {n : Nat} (step : ∀ q, q ≤ n → (q < n → P (q + 1)) → P q) : ∀ q, q ≤ n → P q := by
  have h : ∀ k q, q + k = n → P q := by
    intro k
    induction k with
    | zero => exact fun q hq => step q (by omega) (fun h => absurd h (by omega))
    | succ k ih => exact fun q hq => step q (by omega) (fun _ => ih (q + 1) (by omega))
  exact fun q hq => h (n - q) q (by omega)
theorem nI_shr {s k : Nat} (hk : k < 31) (hs : s < 2147483648) : nI s >>> (nI k &&& 31) = nI (s >>> k) := by
  have h1 : ∀ k, k < 31 → ((nI k &&& 31).toBitVec.smod 32).toNat = k := by decide +kernel
  apply Int32.toBitVec_inj.mp
  show BitVec.sshiftRight' (nI s).toBitVec ((nI k &&& 31).toBitVec.smod 32) = _
  rw [BitVec.sshiftRight', h1 k hk]
  have h2 : (nI s).toBitVec = BitVec.ofNat 32 s := rfl
  have h3 : (nI (s >>> k)).toBitVec = BitVec.ofNat 32 (s >>> k) := rfl
  rw [h2, h3, BitVec.sshiftRight_eq_of_msb_false]
  · apply BitVec.eq_of_toNat_eq
    rw [BitVec.toNat_ushiftRight, BitVec.toNat_ofNat, BitVec.toNat_ofNat, Nat.mod_eq_of_lt (by omega), Nat.mod_eq_of_lt]
    exact Nat.lt_of_le_of_lt (Nat.shiftRight_le s k) (by omega)
  · rw [BitVec.msb_eq_decide, BitVec.toNat_ofNat, Nat.mod_eq_of_lt (by omega)]
    simp
    omega
theorem nI_bit {s k : Nat} (hk : k < 31) (hs : s < 2147483648) : (nI s >>> (nI k &&& 31)) &&& nI 1 = nI (if s.testBit k then 1 else 0) := by
  rw [nI_shr hk hs, nI_and, Nat.and_one_is_mod]
  congr 1
  have : (s >>> k).testBit 0 = s.testBit k := by rw [Nat.testBit_shiftRight, Nat.add_zero]
  rw [Nat.testBit_zero] at this
  rw [← this]
  by_cases h : s >>> k % 2 = 1 <;> simp [h] <;> omega
theorem nI_div {a b : Nat} (ha : a < 2147483648) (hb : b < 2147483648) (h0 : 0 < b) : nI a / nI b = nI (a / b) := by
  have h2 : a / b ≤ a := Nat.div_le_self a b
  apply Int32.toInt_inj.mp
  rw [Int32.toInt_div_of_ne_right, nI_t ha, nI_t hb, nI_t (by omega)]
  · exact Int.ofNat_tdiv a b
  · intro h
    have := congrArg Int32.toInt h
    rw [nI_t hb] at this
    have h1 : ((-1 : Int32)).toInt = -1 := rfl
    rw [h1] at this
    omega
theorem nI_rem {a b : Nat} (ha : a < 2147483648) (hb : b < 2147483648) (h0 : 0 < b) : nI a - nI a / nI b * nI b = nI (a % b) := by
  rw [nI_div ha hb h0, nI_mul, nI_sub (Nat.div_mul_le_self a b)]
  congr 1
  have := Nat.div_add_mod a b
  have h2 : b * (a / b) = a / b * b := Nat.mul_comm _ _
  omega
theorem nI_ne0' {a : Nat} (ha : a < 2147483648) : (nI a = 0) = (a = 0) := by
  rw [← nI_0]
  exact propext (nI_eq (by omega) (by decide))
def zall (p : Nat → Bool) : Nat → Bool
  | 0 => true
  | n + 1 => zall p n && p n
theorem zall_iff (p : Nat → Bool) : ∀ n, zall p n = true ↔ ∀ k, k < n → p k = true
  | 0 => by simp [zall]
  | n + 1 => by
    simp only [zall, Bool.and_eq_true, zall_iff p n]
    constructor
    · intro h k hk
      by_cases e : k = n
      · subst e; exact h.2
      · exact h.1 k (by omega)
    · exact fun h => ⟨fun k hk => h k (by omega), h n (by omega)⟩
def zcount (p : Nat → Bool) : Nat → Nat
  | 0 => 0
  | n + 1 => zcount p n + (if p n then 1 else 0)
theorem zcount_le (p : Nat → Bool) : ∀ n, zcount p n ≤ n
  | 0 => Nat.le_refl _
  | n + 1 => by
    have := zcount_le p n
    simp only [zcount]
    split <;> omega
