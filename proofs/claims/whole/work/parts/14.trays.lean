/-! trays: sort, how many (none: missing), the numbers -/
abbrev zT : Type := (Nat → Nat) × (Nat → Option Nat) × (Nat → Nat → Int64)
def zoI : Option Nat → Int32
  | none => iI (-1)
  | some n => nI n
def zTW (T : zT) : Prop := ∀ t, t < 4 → T.1 t ≤ 3 ∧ ∀ n, T.2.1 t = some n → n ≤ 60
def zMT (σ : qSg) (T : zT) : Prop := ∀ t, t < 4 → σ.1 142 t = nI (T.1 t) ∧ σ.1 143 t = zoI (T.2.1 t) ∧ ∀ n j, T.2.1 t = some n → j < n → σ.2 144 (60 * t + j) = T.2.2 t j
/-- an argument within 0 .. n - 1 -/
def zrg (x : Int32) (n : Nat) : Bool := decide (0 ≤ x.toInt) && decide (x.toInt < n)
def zrl (x : Int64) (n : Nat) : Bool := decide (0 ≤ x.toInt) && decide (x.toInt < n)
/-- a number from lo to hi -/
def zih (x : Int32) (lo hi : Nat) : Bool := decide ((lo : Int) ≤ x.toInt) && decide (x.toInt ≤ hi)
def zlh (x : Int64) (lo hi : Nat) : Bool := decide ((lo : Int) ≤ x.toInt) && decide (x.toInt ≤ hi)
theorem qi2l (x : Int32) : (x.toInt64).toInt = x.toInt := Int32.toInt_toInt64 x
theorem zrl_i (x : Int32) (n : Nat) : zrl x.toInt64 n = zrg x n := by unfold zrl zrg; rw [qi2l]
theorem zlh_i (x : Int32) (lo hi : Nat) : zlh x.toInt64 lo hi = zih x lo hi := by unfold zlh zih; rw [qi2l]
theorem zih_nI {x : Int32} {lo hi : Nat} (h : zih x lo hi = true) : ∃ k, lo ≤ k ∧ k ≤ hi ∧ x = nI k := by
  simp only [zih, Bool.and_eq_true, decide_eq_true_eq] at h
  have := qx_range x
  refine ⟨x.toInt.toNat, by omega, by omega, ?_⟩
  apply Int32.toInt_inj.mp
  rw [nI_t (by omega)]
  omega
theorem zih_k {k lo hi : Nat} (h1 : lo ≤ k) (h2 : k ≤ hi) (hn : hi < 2147483648) : zih (nI k) lo hi = true := by
  simp only [zih, nI_t (show k < 2147483648 by omega)]
  simp
  omega
theorem nI_tn {k : Nat} (h : k < 2147483648) : (nI k).toInt.toNat = k := by rw [nI_t h]; rfl
theorem zrg_nI {x : Int32} {n : Nat} (h : zrg x n = true) : ∃ k, k < n ∧ x = nI k := by
  simp only [zrg, Bool.and_eq_true, decide_eq_true_eq] at h
  have := qx_range x
  refine ⟨x.toInt.toNat, by omega, ?_⟩
  apply Int32.toInt_inj.mp
  rw [nI_t (by omega)]
  omega
theorem zrg_k {k n : Nat} (hk : k < n) (hn : n < 2147483648) : zrg (nI k) n = true := by
  simp only [zrg, nI_t (show k < 2147483648 by omega)]
  simp
  omega
theorem zrl_nat {x : Int64} {n : Nat} (h : zrl x n = true) : x.toInt = (x.toInt.toNat : Int) ∧ x.toInt.toNat < n := by
  simp only [zrl, Bool.and_eq_true, decide_eq_true_eq] at h
  omega
/-- what is wrong with a tray of twos -/
def zwrong (C : zC) (T : zT) (b t n : Int32) : Nat :=
  if (zrg b (C 0 0) && zrg t 4 && zih n 0 20) = false then 1
  else match T.2.1 t.toInt.toNat with
    | none => 2
    | some m => if m < 2 * n.toInt.toNat then 3 else if zall (fun k => zrl (T.2.2 t.toInt.toNat (2 * k)) (C 0 0) && zlh (T.2.2 t.toInt.toNat (2 * k + 1)) 0 200) n.toInt.toNat then 0 else 5
