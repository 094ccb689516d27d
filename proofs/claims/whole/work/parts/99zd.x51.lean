/-! both sides stand beside each other -/
theorem zXA.ref {σ σ' : qSg} {A : zA} (h : zXA σ A) (hW : zAW A) (f : zRef σ σ') : zXA σ' A :=
  h.sm hW (zXsm.g f (fun a j hp hq => by
    have hp : 139 ≤ a := hp
    unfold zXp1 at hq
    omega) (fun a j hp hq => by
    have hp : 139 ≤ a := hp
    unfold zXp2 at hq
    omega))
theorem zMA.cls {σ σ' : qSg} {A : zA} (h : zMA σ A) (hW : zAW A) (f : zCls σ σ') : zMA σ' A :=
  h.sm hW (zSm.g f (fun a j hp hq => by
    have hp : a < 139 := hp
    unfold zKp at hq
    omega) (fun a j hp hq => by
    have hp : a < 139 := hp
    unfold zKq at hq
    omega))
/-- what both sides hold -/
def zBoth (σ : qSg) : Prop := ∃ A, zXA σ A ∧ zMA σ A ∧ zAW A
theorem zPairI {σ : qSg} {A : zA} (hX : zXA σ A) (hM : zMA σ A) (hW : zAW A) {Y : Int32 × zA} {r r' : Int32} {σ1 σ2 : qSg} (h1 : zXCall σ Y r σ1) (h2 : zMA σ1 A → zCall σ1 Y r' σ2) : r = r' ∧ zBoth σ2 := by
  obtain ⟨e1, a1, f1, w1⟩ := h1
  obtain ⟨e2, a2, f2⟩ := h2 (hM.cls hW f1)
  exact ⟨e1.trans e2.symm, Y.2, a1.ref w1 f2, a2, w1⟩
theorem zPairM {σ : qSg} {A : zA} (hM : zMA σ A) (hW : zAW A) {Y : Int32 × zA} {r : Int32} {σ1 : qSg} (h1 : zXCall σ Y r σ1) : zMA σ1 A := hM.cls hW h1.2.2.1
