/-! texts: bytes, tokens, words; what both readers are held against -/
/-- a byte as it lies in a cell -/
def zby (v : Nat) : Int32 := (nI v).toInt8.toInt32
theorem zby_and {v : Nat} (h : v < 256) : zby v &&& nI 255 = nI v := by
  have : ∀ v, v < 256 → zby v &&& nI 255 = nI v := by decide +kernel
  exact this v h
theorem zby_by {v : Nat} (h : v < 256) : (zby v).toInt8.toInt32 = zby v := by
  have : ∀ v, v < 256 → (zby v).toInt8.toInt32 = zby v := by decide +kernel
  exact this v h
/-- the low byte -/
def zlb (x : Int32) : Nat := x.toUInt32.toNat % 256
theorem zlb_lt (x : Int32) : zlb x < 256 := Nat.mod_lt _ (by decide)
theorem zlb_self (x : Int32) : x = nI x.toUInt32.toNat := by
  apply Int32.toBitVec_inj.mp
  show x.toBitVec = BitVec.ofNat 32 x.toBitVec.toNat
  rw [BitVec.ofNat_toNat, BitVec.setWidth_eq]
theorem nI_i8 (n : Nat) : (nI n).toInt8 = Int8.ofNat n := Int32.toInt8_ofNat' (n := n)
theorem zi8_mod (n : Nat) : Int8.ofNat (n % 256) = Int8.ofNat n := by
  apply Int8.toBitVec_inj.mp
  show BitVec.ofNat 8 (n % 256) = BitVec.ofNat 8 n
  apply BitVec.eq_of_toNat_eq
  rw [BitVec.toNat_ofNat, BitVec.toNat_ofNat]
  exact Nat.mod_mod _ _
theorem zlb_eq (x : Int32) : x.toInt8.toInt32 = zby (zlb x) := by
  have h : x.toInt8 = (nI (zlb x)).toInt8 := by
    rw [nI_i8]
    unfold zlb
    rw [zi8_mod, ← nI_i8, ← zlb_self]
  unfold zby
  rw [h]
theorem zlb_twice (x : Int32) : x.toInt8.toInt32.toInt8.toInt32 = zby (zlb x) := by
  have h := zlb_eq x
  rw [h, zby_by (zlb_lt x)]
theorem qshr0 (x : Int32) : x >>> (nI 0 &&& 31) = x := by
  rw [nI_0]
  exact sb_shr0 x
/-- a tape: how many bytes, the bytes -/
abbrev zTp : Type := Nat × (Nat → Nat)
def zput (t : zTp) (v : Nat) : zTp := (t.1 + 1, fun j => if j = t.1 then v else t.2 j)
def zfour (t : zTp) (x : Int32) : zTp := zput (zput (zput (zput t (zlb (x >>> (nI 24 &&& 31)))) (zlb (x >>> (nI 16 &&& 31)))) (zlb (x >>> (nI 8 &&& 31)))) (zlb x)
def zfeed (t : zTp) (a b c d e : Int32) : zTp := zfour (zfour (zfour (zfour (zfour t a) b) c) d) e
def zTpW (t : zTp) : Prop := t.1 ≤ 900 ∧ ∀ j, t.2 j < 256
/-- the first n bytes as a text -/
def ztx (t : Nat → Nat) (n k : Nat) : Nat := if k < n then t k else 999
def zBW (B : Nat → Nat) (n : Nat) : Prop := n ≤ 900 ∧ (∀ k, k < n → B k < 256) ∧ ∀ k, n ≤ k → B k = 999
theorem ztx_W {t : zTp} (ht : zTpW t) {n : Nat} (hn : n ≤ t.1) : zBW (ztx t.2 n) n :=
  ⟨Nat.le_trans hn ht.1, fun k hk => by unfold ztx; rw [if_pos hk]; exact ht.2 k, fun k hk => by unfold ztx; rw [if_neg (by omega)]⟩
-- characters
def zsm (c : Nat) : Bool := decide (97 ≤ c) && decide (c ≤ 122)
def zdi (c : Nat) : Bool := decide (48 ≤ c) && decide (c ≤ 57)
def zbl (c : Nat) : Bool := decide (c = 32) || decide (c = 10)
def zsi (c : Nat) : Bool := decide (c = 59) || decide (c = 60) || decide (c = 62) || decide (c = 61)
-- the token behind place p
def tkS (B : Nat → Nat) (p : Nat) : Nat := zlst (fun k => !(zbl (B k))) 2000 p
def tkA (B : Nat → Nat) (s : Nat) : Nat := zlst (fun k => !(zsm (B k))) 2000 s
def tkD (B : Nat → Nat) (s : Nat) : Nat := zlst (fun k => !(zdi (B k))) 2000 s
/-- its end -/
def tkE (B : Nat → Nat) (p : Nat) : Nat :=
  if B (tkS B p) = 999 then tkS B p
  else if zsm (B (tkS B p)) = true then tkA B (tkS B p)
  else if zdi (B (tkS B p)) = true then tkD B (tkS B p)
  else tkS B p + 1
/-- its kind: 0 the end, 1 none, 2 a word, 3 a number, 4 a sign -/
def tkK (B : Nat → Nat) (p : Nat) : Nat :=
  if B (tkS B p) = 999 then 0
  else if zsm (B (tkS B p)) = true then 2
  else if zdi (B (tkS B p)) = true then (if 4 < tkE B p - tkS B p then 1 else 3)
  else if zsi (B (tkS B p)) = true then 4 else 1
/-- m digits from s on -/
def zval (B : Nat → Nat) (s : Nat) : Nat → Nat
  | 0 => 0
  | m + 1 => 10 * zval B s m + (B (s + m) - 48)
/-- a number's value, a sign -/
def tkV (B : Nat → Nat) (p : Nat) : Nat := if tkK B p = 3 then zval B (tkS B p) (tkE B p - tkS B p) else B (tkS B p)
/-- a word's letters -/
def tkW (B : Nat → Nat) (p : Nat) : List Nat := (List.range (tkE B p - tkS B p)).map (fun i => B (tkS B p + i))
theorem zlst_B {B : Nat → Nat} {n : Nat} (hB : zBW B n) {q : Nat → Bool} (hq : q 999 = false) {p : Nat} (hp : p ≤ n) :
    p ≤ zlst (fun k => !(q (B k))) 2000 p ∧ zlst (fun k => !(q (B k))) 2000 p ≤ n ∧ q (B (zlst (fun k => !(q (B k))) 2000 p)) = false ∧ ∀ m, p ≤ m → m < zlst (fun k => !(q (B k))) 2000 p → q (B m) = true := by
  have := zlst_spec (fun k => !(q (B k))) 2000 p n hp (by have := hB.1; omega) (by
    show (!(q (B n))) = true
    rw [hB.2.2 n (Nat.le_refl _), hq]; rfl)
  refine ⟨this.1, this.2.1, ?_, fun m h1 h2 => ?_⟩
  · have h := this.2.2.1
    simpa using h
  · have h := this.2.2.2 m h1 h2
    simpa using h
theorem tkS_spec {B : Nat → Nat} {n : Nat} (hB : zBW B n) {p : Nat} (hp : p ≤ n) : p ≤ tkS B p ∧ tkS B p ≤ n ∧ zbl (B (tkS B p)) = false ∧ ∀ m, p ≤ m → m < tkS B p → zbl (B m) = true := zlst_B hB (q := zbl) (by decide) hp
theorem tkA_spec {B : Nat → Nat} {n : Nat} (hB : zBW B n) {p : Nat} (hp : p ≤ n) : p ≤ tkA B p ∧ tkA B p ≤ n ∧ zsm (B (tkA B p)) = false ∧ ∀ m, p ≤ m → m < tkA B p → zsm (B m) = true := zlst_B hB (q := zsm) (by decide) hp
theorem tkD_spec {B : Nat → Nat} {n : Nat} (hB : zBW B n) {p : Nat} (hp : p ≤ n) : p ≤ tkD B p ∧ tkD B p ≤ n ∧ zdi (B (tkD B p)) = false ∧ ∀ m, p ≤ m → m < tkD B p → zdi (B m) = true := zlst_B hB (q := zdi) (by decide) hp
theorem zB_lt {B : Nat → Nat} {n : Nat} (hB : zBW B n) (k : Nat) : B k < 256 ∨ (B k = 999 ∧ n ≤ k) := by
  by_cases h : k < n
  · exact Or.inl (hB.2.1 k h)
  · exact Or.inr ⟨hB.2.2 k (by omega), by omega⟩
theorem zB_999 {B : Nat → Nat} {n : Nat} (hB : zBW B n) (k : Nat) : B k = 999 ↔ n ≤ k := by
  constructor
  · intro h
    rcases zB_lt hB k with h1 | h1
    · omega
    · exact h1.2
  · exact hB.2.2 k
/-- where tokens lie -/
theorem tkE_spec {B : Nat → Nat} {n : Nat} (hB : zBW B n) {p : Nat} (hp : p ≤ n) : p ≤ tkS B p ∧ tkS B p ≤ tkE B p ∧ tkE B p ≤ n ∧ (tkK B p ≠ 0 → tkS B p < tkE B p) := by
  have h1 := tkS_spec hB hp
  have hA := tkA_spec hB h1.2.1
  have hD := tkD_spec hB h1.2.1
  have h9 := zB_999 hB (tkS B p)
  unfold tkK tkE
  split
  · exact ⟨h1.1, Nat.le_refl _, h1.2.1, fun h => absurd rfl h⟩
  · next hn =>
    have hlt : tkS B p < n := by omega
    split
    · next hs =>
      have : tkA B (tkS B p) ≠ tkS B p := fun e => by rw [e, hs] at hA; exact absurd hA.2.2.1 (by decide)
      exact ⟨h1.1, hA.1, hA.2.1, fun _ => by omega⟩
    · split
      · next hs =>
        have : tkD B (tkS B p) ≠ tkS B p := fun e => by rw [e, hs] at hD; exact absurd hD.2.2.1 (by decide)
        exact ⟨h1.1, hD.1, hD.2.1, fun _ => by omega⟩
      · exact ⟨h1.1, by omega, by omega, fun _ => by omega⟩
theorem tkK_lt (B : Nat → Nat) (p : Nat) : tkK B p < 5 := by
  unfold tkK
  split
  · decide
  · split
    · decide
    · split
      · split <;> decide
      · split <;> decide
theorem tkK_end {B : Nat → Nat} {n : Nat} (hB : zBW B n) {p : Nat} : tkK B p = 0 ↔ n ≤ tkS B p := by
  have h9 := zB_999 hB (tkS B p)
  unfold tkK
  split
  · next h => exact ⟨fun _ => h9.mp h, fun _ => rfl⟩
  · next h =>
    constructor
    · intro h0
      exfalso
      split at h0
      · omega
      · split at h0
        · split at h0 <;> omega
        · split at h0 <;> omega
    · intro h0
      exact absurd (h9.mpr h0) h
/-- a word's letters are letters -/
theorem tkW_sm {B : Nat → Nat} {n : Nat} (hB : zBW B n) {p : Nat} (hp : p ≤ n) (h : tkK B p = 2) : (∀ i, i < tkE B p - tkS B p → zsm (B (tkS B p + i)) = true) ∧ zsm (B (tkE B p)) = false := by
  have h1 := tkS_spec hB hp
  have hA := tkA_spec hB h1.2.1
  have key : B (tkS B p) ≠ 999 ∧ zsm (B (tkS B p)) = true := by
    unfold tkK at h
    split at h
    · omega
    · next h9 =>
      refine ⟨h9, ?_⟩
      split at h
      · assumption
      · split at h
        · split at h <;> omega
        · split at h <;> omega
  have e : tkE B p = tkA B (tkS B p) := by
    unfold tkE
    rw [if_neg key.1, if_pos key.2]
  rw [e]
  exact ⟨fun i hi => hA.2.2.2 _ (by omega) (by omega), hA.2.2.1⟩
theorem zval_lt {B : Nat → Nat} {s : Nat} : ∀ m, (∀ i, i < m → zdi (B (s + i)) = true) → zval B s m < 10 ^ m
  | 0, _ => by simp [zval]
  | m + 1, h => by
    have ih := zval_lt m (fun i hi => h i (by omega))
    have h1 := h m (by omega)
    simp only [zdi, Bool.and_eq_true, decide_eq_true_eq] at h1
    simp only [zval]
    rw [Nat.pow_succ]
    omega
theorem tkN_di {B : Nat → Nat} {n : Nat} (hB : zBW B n) {p : Nat} (hp : p ≤ n) (h : tkK B p = 3) : (∀ i, i < tkE B p - tkS B p → zdi (B (tkS B p + i)) = true) ∧ tkE B p - tkS B p ≤ 4 ∧ zval B (tkS B p) (tkE B p - tkS B p) < 10000 ∧ tkV B p = zval B (tkS B p) (tkE B p - tkS B p) := by
  have h1 := tkS_spec hB hp
  have hD := tkD_spec hB h1.2.1
  have key : B (tkS B p) ≠ 999 ∧ zsm (B (tkS B p)) ≠ true ∧ zdi (B (tkS B p)) = true ∧ tkE B p - tkS B p ≤ 4 := by
    unfold tkK at h
    split at h
    · omega
    · next h9 =>
      split at h
      · omega
      · next h8 =>
        split at h
        · next h7 =>
          refine ⟨h9, h8, h7, ?_⟩
          split at h <;> omega
        · split at h <;> omega
  have e : tkE B p = tkD B (tkS B p) := by
    unfold tkE
    rw [if_neg key.1, if_neg key.2.1, if_pos key.2.2.1]
  have hd : ∀ i, i < tkE B p - tkS B p → zdi (B (tkS B p + i)) = true := by
    rw [e]
    exact fun i hi => hD.2.2.2 _ (by omega) (by omega)
  refine ⟨hd, key.2.2.2, ?_, by unfold tkV; rw [if_pos h]⟩
  exact Nat.lt_of_lt_of_le (zval_lt _ hd) (Nat.pow_le_pow_right (n := 10) (by decide) key.2.2.2)
theorem tkV_lt {B : Nat → Nat} {n : Nat} (hB : zBW B n) {p : Nat} (hp : p ≤ n) (h : tkK B p = 3) : tkV B p ≤ 9999 := by
  have := tkN_di hB hp h
  omega
theorem tkV_s {B : Nat → Nat} {p : Nat} (h : tkK B p ≠ 3) : tkV B p = B (tkS B p) := by unfold tkV; rw [if_neg h]
