/-! what stays; what a write does to the camp -/
def zF (P : Nat → Nat → Prop) (σ σ' : qSg) : Prop := (∀ a j, ¬ P a j → σ'.1 a j = σ.1 a j) ∧ σ'.2 = σ.2
theorem zF.rf {P : Nat → Nat → Prop} {σ : qSg} : zF P σ σ := ⟨fun _ _ _ => rfl, rfl⟩
theorem zF.tr {P : Nat → Nat → Prop} {σ σ1 σ2 : qSg} (h : zF P σ σ1) (h' : zF P σ1 σ2) : zF P σ σ2 := ⟨fun a j hp => (h'.1 a j hp).trans (h.1 a j hp), h'.2.trans h.2⟩
theorem zF.wk {P P' : Nat → Nat → Prop} {σ σ1 : qSg} (h : zF P σ σ1) (hp : ∀ a j, P a j → P' a j) : zF P' σ σ1 := ⟨fun a j h1 => h.1 a j (fun h2 => h1 (hp a j h2)), h.2⟩
theorem zF.wi {P : Nat → Nat → Prop} {σ : qSg} {a k : Nat} {x : Int32} (h : P a k) : zF P σ (qwi σ a k x) := by
  refine ⟨fun b j hp => ?_, rfl⟩
  simp only [qwi]
  rw [if_neg]
  rintro ⟨rfl, rfl⟩
  exact hp h
/-- the same, where longs change, too -/
def zG (P R : Nat → Nat → Prop) (σ σ' : qSg) : Prop := (∀ a j, ¬ P a j → σ'.1 a j = σ.1 a j) ∧ (∀ a j, ¬ R a j → σ'.2 a j = σ.2 a j)
theorem zG.rf {P R : Nat → Nat → Prop} {σ : qSg} : zG P R σ σ := ⟨fun _ _ _ => rfl, fun _ _ _ => rfl⟩
theorem zG.tr {P R : Nat → Nat → Prop} {σ σ1 σ2 : qSg} (h : zG P R σ σ1) (h' : zG P R σ1 σ2) : zG P R σ σ2 := ⟨fun a j hp => (h'.1 a j hp).trans (h.1 a j hp), fun a j hp => (h'.2 a j hp).trans (h.2 a j hp)⟩
theorem zG.wk {P R P' R' : Nat → Nat → Prop} {σ σ1 : qSg} (h : zG P R σ σ1) (hp : ∀ a j, P a j → P' a j) (hr : ∀ a j, R a j → R' a j) : zG P' R' σ σ1 := ⟨fun a j h1 => h.1 a j (fun h2 => h1 (hp a j h2)), fun a j h1 => h.2 a j (fun h2 => h1 (hr a j h2))⟩
theorem zF.g {P P' R : Nat → Nat → Prop} {σ σ1 : qSg} (h : zF P σ σ1) (hp : ∀ a j, P a j → P' a j) : zG P' R σ σ1 := ⟨fun a j h1 => h.1 a j (fun h2 => h1 (hp a j h2)), fun a j _ => by rw [h.2]⟩
theorem zG.wi {P R : Nat → Nat → Prop} {σ : qSg} {a k : Nat} {x : Int32} (h : P a k) : zG P R σ (qwi σ a k x) := (zF.wi h).g fun _ _ h => h
theorem zG.wl {P R : Nat → Nat → Prop} {σ : qSg} {a k : Nat} {x : Int64} (h : R a k) : zG P R σ (qwl σ a k x) := by
  refine ⟨fun _ _ _ => rfl, fun b j hp => ?_⟩
  simp only [qwl]
  rw [if_neg]
  rintro ⟨rfl, rfl⟩
  exact hp h
theorem qwi_1 (σ : qSg) (a k : Nat) (x : Int32) (b j : Nat) : (qwi σ a k x).1 b j = if b = a ∧ j = k then x else σ.1 b j := rfl
theorem qwi_2 (σ : qSg) (a k : Nat) (x : Int32) : (qwi σ a k x).2 = σ.2 := rfl
theorem qwl_1 (σ : qSg) (a k : Nat) (x : Int64) : (qwl σ a k x).1 = σ.1 := rfl
theorem qwl_2 (σ : qSg) (a k : Nat) (x : Int64) (b j : Nat) : (qwl σ a k x).2 b j = if b = a ∧ j = k then x else σ.2 b j := rfl
/-- the camp's part of the reference -/
def zPc (a j : Nat) : Prop := a = 140 ∧ j < 88 ∧ j ≠ 6
def zPm (a j : Nat) : Prop := (a = 140 ∧ j < 88 ∧ j ≠ 6) ∨ (a = 139 ∧ j = 24)
/-- the camp of a slot stands, if its cells do -/
theorem zM.keep {σ σ' : qSg} {s : Nat} {C : zC} (h : zM σ s C) (hw : zW C) (hk : ∀ j, j < 88 → σ'.1 140 (s + j) = σ.1 140 (s + j)) : zM σ' s C := by
  obtain ⟨wb, wq, ww1, ww2, wh1, wh2, wo, wm, wB, wQ⟩ := id hw
  refine ⟨fun j hj => ?_, fun b hb f hf => ?_, fun q hq f hf => ?_⟩
  · rw [hk j (by omega)]; exact h.1 j hj
  · rw [hk _ (by omega)]; exact h.2.1 b hb f hf
  · rw [hk _ (by omega)]; exact h.2.2 q hq f hf
theorem zM_wi {σ : qSg} {C : zC} (h : zM σ 0 C) {a k : Nat} {x : Int32} (hne : ¬ (a = 140 ∧ k < 88)) (hw : zW C) : zM (qwi σ a k x) 0 C := by
  refine h.keep hw fun j hj => ?_
  rw [qwi_1, if_neg]
  rintro ⟨rfl, rfl⟩
  exact hne ⟨rfl, by omega⟩
theorem zu_ne {C : zC} {f i v g j : Nat} (h : ¬ (g = f ∧ j = i)) : zu C f i v g j = C g j := if_neg h
theorem zu_eq {C : zC} {f i v : Nat} : zu C f i v f i = v := if_pos ⟨rfl, rfl⟩
theorem zM_ws {σ : qSg} {C : zC} (h : zM σ 0 C) (hw : zW C) {j v : Nat} (hj : j < 6) (hb : 0 < j) (hq : j ≠ 1) : zM (qwi σ 140 j (nI v)) 0 (zu C 0 j v) := by
  obtain ⟨wb, wq, ww1, ww2, wh1, wh2, wo, wm, wB, wQ⟩ := id hw
  have e0 : zu C 0 j v 0 0 = C 0 0 := zu_ne (by omega)
  have e1 : zu C 0 j v 0 1 = C 0 1 := zu_ne (by omega)
  refine ⟨fun i hi => ?_, fun b hb f hf => ?_, fun q hq f hf => ?_⟩
  · rw [qwi_1]
    have := h.1 i hi
    by_cases e : i = j
    · subst e; rw [if_pos (by omega), zu_eq]
    · rw [if_neg (by omega), this, zu_ne (by omega)]
  · rw [e0] at hb
    rw [qwi_1, if_neg (by omega), h.2.1 b hb f hf, zu_ne (by omega)]
  · rw [e1] at hq
    rw [qwi_1, if_neg (by omega), h.2.2 q hq f hf, zu_ne (by omega)]
theorem zM_wb {σ : qSg} {C : zC} (h : zM σ 0 C) (hw : zW C) {b f v : Nat} (hb : b < C 0 0) (hf : f < 5) : zM (qwi σ 140 (8 + 5 * b + f) (nI v)) 0 (zu C (1 + f) b v) := by
  obtain ⟨wb, wq, ww1, ww2, wh1, wh2, wo, wm, wB, wQ⟩ := id hw
  have e0 : zu C (1 + f) b v 0 0 = C 0 0 := zu_ne (by omega)
  have e1 : zu C (1 + f) b v 0 1 = C 0 1 := zu_ne (by omega)
  refine ⟨fun i hi => ?_, fun b1 hb1 f1 hf1 => ?_, fun q hq f1 hf1 => ?_⟩
  · rw [qwi_1, if_neg (by omega), h.1 i hi, zu_ne (by omega)]
  · rw [e0] at hb1
    rw [qwi_1]
    by_cases e : b1 = b ∧ f1 = f
    · obtain ⟨rfl, rfl⟩ := e
      rw [if_pos (by omega), zu_eq]
    · rw [if_neg (by omega), h.2.1 b1 hb1 f1 hf1, zu_ne (by omega)]
  · rw [e1] at hq
    rw [qwi_1, if_neg (by omega), h.2.2 q hq f1 hf1, zu_ne (by omega)]
theorem zM_wq {σ : qSg} {C : zC} (h : zM σ 0 C) (hw : zW C) {q f v : Nat} (hq : q < C 0 1) (hf : f < 4) : zM (qwi σ 140 (48 + 4 * q + f) (nI v)) 0 (zu C (6 + f) q v) := by
  obtain ⟨wb, wq, ww1, ww2, wh1, wh2, wo, wm, wB, wQ⟩ := id hw
  have e0 : zu C (6 + f) q v 0 0 = C 0 0 := zu_ne (by omega)
  have e1 : zu C (6 + f) q v 0 1 = C 0 1 := zu_ne (by omega)
  refine ⟨fun i hi => ?_, fun b1 hb1 f1 hf1 => ?_, fun q1 hq1 f1 hf1 => ?_⟩
  · rw [qwi_1, if_neg (by omega), h.1 i hi, zu_ne (by omega)]
  · rw [e0] at hb1
    rw [qwi_1, if_neg (by omega), h.2.1 b1 hb1 f1 hf1, zu_ne (by omega)]
  · rw [e1] at hq1
    rw [qwi_1]
    by_cases e : q1 = q ∧ f1 = f
    · obtain ⟨rfl, rfl⟩ := e
      rw [if_pos (by omega), zu_eq]
    · rw [if_neg (by omega), h.2.2 q1 hq1 f1 hf1, zu_ne (by omega)]
-- what a minute does
def zend1 (C : zC) (q w : Nat) : zC := zu C 9 q w
def zyl1 (C : zC) (b : Nat) : zC := zu C 5 b (C 5 b + 1)
/-- a quarrel is over: by the one (1), the other (2), both (3) -/
def zend (C : zC) (q w : Nat) : zC :=
  let C1 := zu C 9 q w
  let C2 := if w % 2 = 1 then zyl1 C1 (C1 6 q) else C1
  if w / 2 % 2 = 1 then zyl1 C2 (C2 7 q) else C2
theorem zW_end1 {C : zC} (hw : zW C) {q w : Nat} (hl : w ≤ 3) : zW (zu C 9 q w) := by
  obtain ⟨wb, wq, ww1, ww2, wh1, wh2, wo, wm, wB, wQ⟩ := id hw
  refine ⟨by simpa [zu] using wb, by simpa [zu] using wq, by simpa [zu] using ww1, by simpa [zu] using ww2, by simpa [zu] using wh1, by simpa [zu] using wh2, by simpa [zu] using wo, by simpa [zu] using wm, fun b hb => by simpa [zu] using wB b (by simpa [zu] using hb), fun q1 hq1 => ?_⟩
  have := wQ q1 (by simpa [zu] using hq1)
  by_cases e : q1 = q
  · subst e; simp [zu]; omega
  · simpa [zu, e] using this
theorem zW_yl1 {C : zC} (hw : zW C) (b : Nat) : zW (zyl1 C b) := by
  obtain ⟨wb, wq, ww1, ww2, wh1, wh2, wo, wm, wB, wQ⟩ := id hw
  unfold zyl1
  exact ⟨by simpa [zu] using wb, by simpa [zu] using wq, by simpa [zu] using ww1, by simpa [zu] using ww2, by simpa [zu] using wh1, by simpa [zu] using wh2, by simpa [zu] using wo, by simpa [zu] using wm, fun b hb => by simpa [zu] using wB b (by simpa [zu] using hb), fun q1 hq1 => by simpa [zu] using wQ q1 (by simpa [zu] using hq1)⟩
theorem zW_end {C : zC} (hw : zW C) {q w : Nat} (hl : w ≤ 3) : zW (zend C q w) := by
  have h1 := zW_end1 (q := q) hw hl
  unfold zend
  simp only
  split <;> split <;> first | exact h1 | exact zW_yl1 h1 _ | exact zW_yl1 (zW_yl1 h1 _) _
theorem zend_q (C : zC) (q w f i : Nat) (hf : f ≠ 9) (hf5 : f ≠ 5) : zend C q w f i = C f i := by
  unfold zend zyl1
  try dsimp only
  split <;> split <;> simp [zu, hf, hf5]
theorem zend_9 (C : zC) (q w i : Nat) : zend C q w 9 i = if i = q then w else C 9 i := by
  unfold zend zyl1
  try dsimp only
  split <;> split <;> simp [zu]
-- a minute
def zwho (C : zC) (up q : Nat) : Nat := (if zdue C (C 6 q) q up ≤ C 0 5 then 1 else 0) + (if zdue C (C 7 q) q up ≤ C 0 5 then 2 else 0)
def zyy (C : zC) (q w y : Nat) : Nat :=
  let y1 := if w = 2 then y else y ||| 2 ^ C 6 q
  if w = 1 then y1 else y1 ||| 2 ^ C 7 q
def zms (up : Nat) (s : zC × Nat × Nat) (q : Nat) : zC × Nat × Nat :=
  if zOpen s.1 q = true ∧ zwho s.1 up q ≠ 0 then (zend s.1 q (zwho s.1 up q), s.2.1 + 1, zyy s.1 q (zwho s.1 up q) s.2.2) else s
def zmf (up : Nat) (C : zC) : Nat → zC × Nat × Nat
  | 0 => (C, 0, 0)
  | q + 1 => zms up (zmf up C q) q
/-- a minute goes by: the camp, how many are over by it, who yields -/
def zmin (C : zC) : zC × Nat × Nat := (zu (zmf (zups C) C (C 0 1)).1 0 5 (C 0 5 + 1), (zmf (zups C) C (C 0 1)).2)
theorem zwho_le (C : zC) (up q : Nat) : zwho C up q ≤ 3 := by
  unfold zwho
  split <;> split <;> omega
theorem zmf_W {C : zC} (hw : zW C) (up : Nat) : ∀ q, zW (zmf up C q).1
  | 0 => hw
  | q + 1 => by
    have ih := zmf_W hw up q
    simp only [zmf, zms]
    split
    · exact zW_end ih (zwho_le _ _ _)
    · exact ih
theorem zmf_q (C : zC) (up f i : Nat) (h9 : f ≠ 9) (h5 : f ≠ 5) : ∀ q, (zmf up C q).1 f i = C f i
  | 0 => rfl
  | q + 1 => by
    have ih := zmf_q C up f i h9 h5 q
    simp only [zmf, zms]
    split
    · show zend _ _ _ f i = _
      rw [zend_q _ _ _ _ _ h9 h5]; exact ih
    · exact ih
theorem zmf_9 (C : zC) (up i : Nat) : ∀ q, q ≤ i → (zmf up C q).1 9 i = C 9 i
  | 0, _ => rfl
  | q + 1, h => by
    have ih := zmf_9 C up i q (by omega)
    simp only [zmf, zms]
    split
    · show zend _ _ _ 9 i = _
      rw [zend_9, if_neg (by omega)]; exact ih
    · exact ih
