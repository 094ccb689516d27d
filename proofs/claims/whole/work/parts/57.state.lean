/-! the whole state, abstractly; how the reference holds it -/
/-- camp, names, weeks (lines, how many) -/
abbrev zK : Type := zC × (Nat → List Nat) × Option ((Nat → Nat → Nat) × Nat)
/-- camp; marks (how many, which); trays; tape; fraction; status; fault (kind, place); what was told of a life; rounds -/
abbrev zA : Type := zK × (Nat × (Nat → zK)) × zT × zTp × (Nat × Nat) × Nat × (Int32 × Int32) × (Bool × (Nat → Nat)) × (Nat → Nat)
abbrev aC (A : zA) : zC := A.1.1
abbrev aM (A : zA) : Nat × (Nat → zK) := A.2.1
abbrev aT (A : zA) : zT := A.2.2.1
abbrev aP (A : zA) : zTp := A.2.2.2.1
abbrev aF (A : zA) : Nat × Nat := A.2.2.2.2.1
abbrev aS (A : zA) : Nat := A.2.2.2.2.2.1
abbrev aE (A : zA) : Int32 × Int32 := A.2.2.2.2.2.2.1
abbrev aD (A : zA) : Bool × (Nat → Nat) := A.2.2.2.2.2.2.2.1
abbrev aL (A : zA) : Nat → Nat := A.2.2.2.2.2.2.2.2
def sK (A : zA) (k : zK) : zA := (k, A.2)
def sC (A : zA) (C : zC) : zA := ((C, A.1.2), A.2)
def sM (A : zA) (m : Nat × (Nat → zK)) : zA := (A.1, m, A.2.2)
def sT (A : zA) (T : zT) : zA := (A.1, A.2.1, T, A.2.2.2)
def sP (A : zA) (t : zTp) : zA := (A.1, A.2.1, A.2.2.1, t, A.2.2.2.2)
def sF (A : zA) (f : Nat × Nat) : zA := (A.1, A.2.1, A.2.2.1, A.2.2.2.1, f, A.2.2.2.2.2)
def sS (A : zA) (v : Nat) : zA := (A.1, A.2.1, A.2.2.1, A.2.2.2.1, A.2.2.2.2.1, v, A.2.2.2.2.2.2)
def sE (A : zA) (e : Int32 × Int32) : zA := (A.1, A.2.1, A.2.2.1, A.2.2.2.1, A.2.2.2.2.1, A.2.2.2.2.2.1, e, A.2.2.2.2.2.2.2)
def sD (A : zA) (d : Bool × (Nat → Nat)) : zA := (A.1, A.2.1, A.2.2.1, A.2.2.2.1, A.2.2.2.2.1, A.2.2.2.2.2.1, A.2.2.2.2.2.2.1, d, A.2.2.2.2.2.2.2.2)
def sL (A : zA) (L : Nat → Nat) : zA := (A.1, A.2.1, A.2.2.1, A.2.2.2.1, A.2.2.2.2.1, A.2.2.2.2.2.1, A.2.2.2.2.2.2.1, A.2.2.2.2.2.2.2.1, L)
def zKW (k : zK) : Prop := zW k.1 ∧ k.1 0 5 ≤ 9999 ∧ zNW (k.1 0 0) k.2.1 ∧ ∀ w, k.2.2 = some w → zWW w.1 w.2 (k.1 0 0) (k.1 0 2 * k.1 0 3)
def zAW (A : zA) : Prop := zKW A.1 ∧ (aM A).1 ≤ 3 ∧ (∀ i, 1 ≤ i → i ≤ (aM A).1 → zKW ((aM A).2 i)) ∧ zTW (aT A) ∧ zTpW (aP A) ∧ (∀ j, aL A j ≤ 99)
-- answers
def yOk (A : zA) (v : Int32) : Int32 × zA := (v, sS A 0)
def yNo (A : zA) (k : Nat) : Int32 × zA := (iI (-1), sS A k)
def yT (A : zA) : Int32 × zA := (qb true, sS A 0)
def yF (A : zA) (k : Nat) : Int32 × zA := (qb false, sS A k)
-- the reference's cells
def zMWs (σ : qSg) (s : Nat) (W : Nat → Nat → Nat) (n : Nat) : Prop := σ.1 140 (s + 6) = nI n ∧ ∀ k, k < n → ∀ i, i < 6 → σ.1 140 (s + (88 + 6 * k + i)) = nI (W k i)
def zMwk (σ : qSg) (s : Nat) : Option ((Nat → Nat → Nat) × Nat) → Prop
  | none => σ.1 140 (s + 6) = iI (-1)
  | some w => zMWs σ s w.1 w.2
def zMK (σ : qSg) (i : Nat) (k : zK) : Prop := zM σ (456 * i) k.1 ∧ zMN σ (8 * i) (k.1 0 0) k.2.1 ∧ zMwk σ (456 * i) k.2.2
def zTape (σ : qSg) (t : zTp) : Prop := σ.1 139 10 = nI t.1 ∧ ∀ j, j < t.1 → σ.1 145 j = zby (t.2 j)
def zTold (σ : qSg) (d : Bool × (Nat → Nat)) : Prop := σ.1 139 42 = qb d.1 ∧ (d.1 = true → ∀ j, j < 5 → σ.1 157 j = nI (d.2 j))
def zMA (σ : qSg) (A : zA) : Prop :=
  zMK σ 0 A.1 ∧ σ.1 139 43 = nI (aM A).1 ∧ (∀ i, 1 ≤ i → i ≤ (aM A).1 → zMK σ i ((aM A).2 i)) ∧ zMT σ (aT A) ∧ zTape σ (aP A) ∧ (σ.2 139 3 = lN (aF A).1 ∧ σ.2 139 4 = lN (aF A).2) ∧ σ.1 139 2 = nI (aS A) ∧ (σ.1 139 16 = (aE A).1 ∧ σ.1 139 17 = (aE A).2) ∧ zTold σ (aD A) ∧ zLo σ (aL A)
-- what must stay, that the state stays
def zKp (a j : Nat) : Prop := (a = 140 ∧ j < 1824) ∨ (a = 139 ∧ (j = 43 ∨ j = 10 ∨ j = 2 ∨ j = 16 ∨ j = 17 ∨ j = 42)) ∨ a = 142 ∨ a = 143 ∨ a = 145 ∨ a = 157 ∨ a = 155
def zKq (a j : Nat) : Prop := (a = 141 ∧ j < 32) ∨ a = 144 ∨ (a = 139 ∧ (j = 3 ∨ j = 4))
/-- from σ to σ' all that the state is read from stays -/
def zSm (σ σ' : qSg) : Prop := (∀ a j, zKp a j → σ'.1 a j = σ.1 a j) ∧ ∀ a j, zKq a j → σ'.2 a j = σ.2 a j
theorem zSm.rf {σ : qSg} : zSm σ σ := ⟨fun _ _ _ => rfl, fun _ _ _ => rfl⟩
theorem zSm.tr {σ σ1 σ2 : qSg} (h : zSm σ σ1) (h' : zSm σ1 σ2) : zSm σ σ2 := ⟨fun a j hp => (h'.1 a j hp).trans (h.1 a j hp), fun a j hp => (h'.2 a j hp).trans (h.2 a j hp)⟩
theorem zSm.f {σ σ' : qSg} {P : Nat → Nat → Prop} (f : zF P σ σ') (h : ∀ a j, P a j → ¬ zKp a j) : zSm σ σ' := ⟨fun a j hk => f.1 a j (fun hp => h a j hp hk), fun a j _ => by rw [f.2]⟩
theorem zSm.g {σ σ' : qSg} {P R : Nat → Nat → Prop} (f : zG P R σ σ') (h : ∀ a j, P a j → ¬ zKp a j) (h2 : ∀ a j, R a j → ¬ zKq a j) : zSm σ σ' := ⟨fun a j hk => f.1 a j (fun hp => h a j hp hk), fun a j hk => f.2 a j (fun hp => h2 a j hp hk)⟩
theorem zM.kp6 {σ σ' : qSg} {s : Nat} {C : zC} (h : zM σ s C) (hb : C 0 0 ≤ 8) (hq : C 0 1 ≤ 10) (hk : ∀ j, j < 88 → j ≠ 6 → σ'.1 140 (s + j) = σ.1 140 (s + j)) : zM σ' s C := by
  refine ⟨fun j hj => ?_, fun b hb f hf => ?_, fun q hq f hf => ?_⟩
  · rw [hk j (by omega) (by omega)]; exact h.1 j hj
  · rw [hk _ (by omega) (by omega)]; exact h.2.1 b hb f hf
  · rw [hk _ (by omega) (by omega)]; exact h.2.2 q hq f hf
theorem zMwk.kp {σ σ' : qSg} {s : Nat} {w : Option ((Nat → Nat → Nat) × Nat)} (h : zMwk σ s w) (hn : ∀ x, w = some x → x.2 ≤ 60) (e : ∀ j, j < 448 → (j = 6 ∨ 88 ≤ j) → σ'.1 140 (s + j) = σ.1 140 (s + j)) : zMwk σ' s w := by
  cases w with
  | none =>
    show σ'.1 140 (s + 6) = iI (-1)
    rw [e 6 (by decide) (Or.inl rfl)]
    exact h
  | some x =>
    have h60 := hn x rfl
    obtain ⟨h1, h2⟩ := h
    refine ⟨?_, fun k hk i hi => ?_⟩
    · rw [e 6 (by decide) (Or.inl rfl)]; exact h1
    · rw [e _ (by omega) (Or.inr (by omega))]; exact h2 k hk i hi
theorem zKW.w {k : zK} (h : zKW k) : ∀ x, k.2.2 = some x → x.2 ≤ 60 := fun x hx => (h.2.2.2 x hx).1
theorem zMK.kp {σ σ' : qSg} {i : Nat} {k : zK} (h : zMK σ i k) (hW : zKW k) (e : ∀ j, j < 448 → σ'.1 140 (456 * i + j) = σ.1 140 (456 * i + j)) (e2 : ∀ j, j < 8 → σ'.2 141 (8 * i + j) = σ.2 141 (8 * i + j)) : zMK σ' i k := by
  have wb := hW.1.1
  refine ⟨h.1.kp6 hW.1.1 hW.1.2.1 (fun j hj _ => e j (by omega)), fun b hb => ?_, h.2.2.kp hW.w (fun j hj _ => e j hj)⟩
  rw [e2 b (by omega)]
  exact h.2.1 b hb
theorem zMT.kp {σ σ' : qSg} {T : zT} (h : zMT σ T) (e1 : ∀ j, σ'.1 142 j = σ.1 142 j) (e2 : ∀ j, σ'.1 143 j = σ.1 143 j) (e3 : ∀ j, σ'.2 144 j = σ.2 144 j) : zMT σ' T := by
  intro t ht
  obtain ⟨h1, h2, h3⟩ := h t ht
  exact ⟨by rw [e1]; exact h1, by rw [e2]; exact h2, fun n j hn hj => by rw [e3]; exact h3 n j hn hj⟩
theorem zMA.sm {σ σ' : qSg} {A : zA} (h : zMA σ A) (hW : zAW A) (s : zSm σ σ') : zMA σ' A := by
  obtain ⟨w1, w2, w3, -⟩ := hW
  obtain ⟨h1, h2, h3, h4, h5, h6, h7, h8, h9, h10⟩ := h
  have e : ∀ j, j < 1824 → σ'.1 140 j = σ.1 140 j := fun j hj => s.1 _ _ (Or.inl ⟨rfl, hj⟩)
  have ef : ∀ j, (j = 43 ∨ j = 10 ∨ j = 2 ∨ j = 16 ∨ j = 17 ∨ j = 42) → σ'.1 139 j = σ.1 139 j := fun j hj => s.1 _ _ (Or.inr (Or.inl ⟨rfl, hj⟩))
  refine ⟨h1.kp w1 (fun j hj => e _ (by omega)) (fun j hj => s.2 _ _ (Or.inl ⟨rfl, by omega⟩)), ?_, fun i i1 i2 => (h3 i i1 i2).kp (w3 i i1 i2) (fun j hj => e _ (by omega)) (fun j hj => s.2 _ _ (Or.inl ⟨rfl, by omega⟩)), ?_, ⟨?_, fun j hj => ?_⟩, ⟨?_, ?_⟩, ?_, ⟨?_, ?_⟩, ⟨?_, fun hd j hj => ?_⟩, fun j hj => ?_⟩
  · rw [ef _ (by omega)]; exact h2
  · exact h4.kp (fun j => s.1 _ _ (by unfold zKp; omega)) (fun j => s.1 _ _ (by unfold zKp; omega)) (fun j => s.2 _ _ (by unfold zKq; omega))
  · rw [ef _ (by omega)]; exact h5.1
  · rw [s.1 _ _ (by unfold zKp; omega)]; exact h5.2 j hj
  · rw [s.2 _ _ (by unfold zKq; omega)]; exact h6.1
  · rw [s.2 _ _ (by unfold zKq; omega)]; exact h6.2
  · rw [ef _ (by omega)]; exact h7
  · rw [ef _ (by omega)]; exact h8.1
  · rw [ef _ (by omega)]; exact h8.2
  · rw [ef _ (by omega)]; exact h9.1
  · rw [s.1 _ _ (by unfold zKp; omega)]; exact h9.2 hd j hj
  · rw [s.1 _ _ (by unfold zKp; omega)]; exact h10 j hj
/-- another status -/
theorem zMA.st {σ : qSg} {A : zA} (h : zMA σ A) (hW : zAW A) (v : Nat) : zMA (qwi σ 139 2 (nI v)) (sS A v) := by
  obtain ⟨w1, w2, w3, -⟩ := hW
  obtain ⟨h1, h2, h3, h4, h5, h6, h7, h8, h9, h10⟩ := h
  have e : ∀ a j, ¬ (a = 139 ∧ j = 2) → (qwi σ 139 2 (nI v)).1 a j = σ.1 a j := fun a j hn => by rw [qwi_1, if_neg hn]
  refine ⟨h1.kp w1 (fun j hj => e _ _ (by omega)) (fun j hj => rfl), ?_, fun i i1 i2 => (h3 i i1 i2).kp (w3 i i1 i2) (fun j hj => e _ _ (by omega)) (fun j hj => rfl), ?_, ⟨?_, fun j hj => ?_⟩, h6, ?_, ⟨?_, ?_⟩, ⟨?_, fun hd j hj => ?_⟩, fun j hj => ?_⟩
  · rw [e _ _ (by omega)]; exact h2
  · exact h4.kp (fun j => e _ _ (by omega)) (fun j => e _ _ (by omega)) (fun j => rfl)
  · rw [e _ _ (by omega)]; exact h5.1
  · rw [e _ _ (by omega)]; exact h5.2 j hj
  · rw [qwi_1, if_pos ⟨rfl, rfl⟩]; rfl
  · rw [e _ _ (by omega)]; exact h8.1
  · rw [e _ _ (by omega)]; exact h8.2
  · rw [e _ _ (by omega)]; exact h9.1
  · rw [e _ _ (by omega)]; exact h9.2 hd j hj
  · rw [e _ _ (by omega)]; exact h10 j hj
/-- another camp, its boys and weeks as they were -/
theorem zMA.c {σ σ' : qSg} {A : zA} (h : zMA σ A) (hW : zAW A) {C : zC} (f : zF zPm σ σ') (hM : zM σ' 0 C) (hC : C 0 0 = aC A 0 0) : zMA σ' (sC A C) := by
  obtain ⟨w1, w2, w3, -⟩ := hW
  obtain ⟨h1, h2, h3, h4, h5, h6, h7, h8, h9, h10⟩ := h
  have e : ∀ a j, ¬ zPm a j → σ'.1 a j = σ.1 a j := f.1
  refine ⟨⟨hM, fun b hb => ?_, h1.2.2.kp w1.w (fun j hj h88 => e _ _ (by unfold zPm; omega))⟩, ?_, fun i i1 i2 => (h3 i i1 i2).kp (w3 i i1 i2) (fun j hj => e _ _ (by unfold zPm; omega)) (fun j hj => by rw [f.2]), ?_, ⟨?_, fun j hj => ?_⟩, by rw [f.2]; exact h6, ?_, ⟨?_, ?_⟩, ⟨?_, fun hd j hj => ?_⟩, fun j hj => ?_⟩
  · rw [f.2]; exact h1.2.1 b (by have h11 : b < C 0 0 := hb; have h12 : C 0 0 = A.1.1 0 0 := hC; omega)
  · rw [e _ _ (by unfold zPm; omega)]; exact h2
  · exact h4.kp (fun j => e _ _ (by unfold zPm; omega)) (fun j => e _ _ (by unfold zPm; omega)) (fun j => by rw [f.2])
  · rw [e _ _ (by unfold zPm; omega)]; exact h5.1
  · rw [e _ _ (by unfold zPm; omega)]; exact h5.2 j hj
  · rw [e _ _ (by unfold zPm; omega)]; exact h7
  · rw [e _ _ (by unfold zPm; omega)]; exact h8.1
  · rw [e _ _ (by unfold zPm; omega)]; exact h8.2
  · rw [e _ _ (by unfold zPm; omega)]; exact h9.1
  · rw [e _ _ (by unfold zPm; omega)]; exact h9.2 hd j hj
  · rw [e _ _ (by unfold zPm; omega)]; exact h10 j hj
/-- the reference's cells alone change -/
def zRef (σ σ' : qSg) : Prop := zG (fun a _ => 139 ≤ a) (fun a _ => 139 ≤ a) σ σ'
theorem zRef.f {σ σ' : qSg} {P : Nat → Nat → Prop} (f : zF P σ σ') (h : ∀ a j, P a j → 139 ≤ a) : zRef σ σ' := f.g h
theorem zRef.g {σ σ' : qSg} {P R : Nat → Nat → Prop} (f : zG P R σ σ') (h : ∀ a j, P a j → 139 ≤ a) (h2 : ∀ a j, R a j → 139 ≤ a) : zRef σ σ' := f.wk h h2
theorem zRef.st {σ : qSg} {x : Int32} : zRef σ (qwi σ 139 2 x) := zG.wi (by decide)
/-- a call of the reference: answer, state, frame -/
def zCall (σ : qSg) (Y : Int32 × zA) (r : Int32) (σ' : qSg) : Prop := r = Y.1 ∧ zMA σ' Y.2 ∧ zRef σ σ'
theorem zAW.st {A : zA} (h : zAW A) (v : Nat) : zAW (sS A v) := h
