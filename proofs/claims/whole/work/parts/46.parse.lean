/-! the readers, abstractly -/
abbrev zR (α : Type) : Type := (Nat × Nat) ⊕ α
def zbd {α β : Type} (r : zR α) (f : α → zR β) : zR β :=
  match r with
  | .inl e => .inl e
  | .inr a => f a
theorem zbd_l {α β : Type} (e : Nat × Nat) (f : α → zR β) : zbd (.inl e) f = .inl e := rfl
theorem zbd_r {α β : Type} (a : α) (f : α → zR β) : zbd (.inr a) f = f a := rfl
theorem zbd_inr {α β : Type} {r : zR α} {f : α → zR β} {b : β} (h : zbd r f = .inr b) : ∃ a, r = .inr a ∧ f a = .inr b := by
  cases r with
  | inl e => simp [zbd] at h
  | inr a => exact ⟨a, rfl, h⟩
-- the words that are no names, in the reference's order
def zkw : List (List Nat) := [[102, 105, 101, 108, 100], [111, 100, 100, 115], [98, 111, 121], [113, 117, 97, 114, 114, 101, 108], [98, 121], [97, 116], [112, 114, 105, 100, 101], [115, 111, 102, 116], [101, 97, 114, 115], [103, 114, 117, 100, 103, 101], [109, 105, 110, 117, 116, 101], [100, 97, 119, 110], [121, 105, 101, 108, 100], [112, 105, 116, 99, 104], [97, 110, 121], [119, 104, 101, 110], [108, 111, 111, 112], [101, 110, 100], [115, 116, 111, 112], [117, 112], [111, 112, 101, 110], [110, 111, 119]]
def zix (w : List Nat) : List (List Nat) → Nat
  | [] => 0
  | x :: l => if x = w then 0 else zix w l + 1
/-- a word's number among these (22: none) -/
def tkY (B : Nat → Nat) (p : Nat) : Nat := if tkK B p = 2 then zix (tkW B p) zkw else 22
theorem zix_le (w : List Nat) : ∀ l, zix w l ≤ l.length
  | [] => Nat.le_refl _
  | x :: l => by
    have := zix_le w l
    simp only [zix, List.length_cons]
    split <;> omega
theorem tkY_le (B : Nat → Nat) (p : Nat) : tkY B p ≤ 22 := by
  unfold tkY
  split
  · exact zix_le _ zkw
  · exact Nat.le_refl _
theorem tkY_w {B : Nat → Nat} {p : Nat} (h : tkY B p < 22) : tkK B p = 2 := by
  unfold tkY at h
  split at h
  · assumption
  · omega
theorem zix_is (w : List Nat) : ∀ (l : List (List Nat)) (n : Nat), n < l.length → l.getD n [] = w → (∀ i, i < n → l.getD i [] ≠ w) → zix w l = n
  | [], n, h, _, _ => by simp at h
  | x :: l, 0, _, h, _ => by
    simp only [List.getD_cons_zero] at h
    simp [zix, h]
  | x :: l, n + 1, hn, h, hi => by
    have h0 := hi 0 (by omega)
    simp only [List.getD_cons_zero] at h0
    simp only [zix, if_neg h0]
    rw [zix_is w l n (by simpa using hn) (by simpa using h) (fun i h1 => by have := hi (i + 1) (by omega); simpa using this)]
theorem zix_no (w : List Nat) : ∀ (l : List (List Nat)), (∀ i, i < l.length → l.getD i [] ≠ w) → zix w l = l.length
  | [], _ => rfl
  | x :: l, hi => by
    have h0 := hi 0 (by simp)
    simp only [List.getD_cons_zero] at h0
    simp only [zix, if_neg h0, List.length_cons]
    rw [zix_no w l (fun i h1 => by have := hi (i + 1) (by simpa using h1); simpa using this)]
/-- a fault where something else must stand -/
def zno (B : Nat → Nat) (p f : Nat) : Nat × Nat := (if tkK B p = 1 then 1 else f, tkS B p)
def zpN (B : Nat → Nat) (lo hi p : Nat) : zR (Nat × Nat) :=
  if tkK B p ≠ 3 then .inl (zno B p 2) else if tkV B p < lo ∨ hi < tkV B p then .inl (zno B p 4) else .inr (tkV B p, tkE B p)
def zpS (B : Nat → Nat) (c p : Nat) : zR Nat := if tkK B p = 4 ∧ tkV B p = c then .inr (tkE B p) else .inl (zno B p 2)
def zpK (B : Nat → Nat) (k p : Nat) : zR Nat := if tkY B p = k then .inr (tkE B p) else .inl (zno B p 2)
def zisN (B : Nat → Nat) (p : Nat) : Bool := decide (tkK B p = 2) && decide (tkE B p - tkS B p ≤ 8) && decide (tkY B p = 22)
/-- the first boy of that name (or m) -/
def zfd (N : Nat → List Nat) (w : List Nat) (m : Nat) : Nat := zlst (fun b => decide (N b = w)) m 0
def zpB (B : Nat → Nat) (N : Nat → List Nat) (m p : Nat) : zR (Nat × Nat) :=
  if zisN B p = false then .inl (zno B p 2) else if zfd N (tkW B p) m = m then .inl (zno B p 3) else .inr (zfd N (tkW B p) m, tkE B p)
theorem zpN_inr {B : Nat → Nat} {n lo hi p v p' : Nat} (hB : zBW B n) (hp : p ≤ n) (h : zpN B lo hi p = .inr (v, p')) : p < p' ∧ p' ≤ n ∧ lo ≤ v ∧ v ≤ hi := by
  have hs := tkE_spec hB hp
  unfold zpN at h
  split at h
  · cases h
  · next h3 =>
    split at h
    · cases h
    · cases h
      have := hs.2.2.2 (by omega)
      exact ⟨by omega, hs.2.2.1, by omega, by omega⟩
theorem zpS_inr {B : Nat → Nat} {n c p p' : Nat} (hB : zBW B n) (hp : p ≤ n) (h : zpS B c p = .inr p') : p < p' ∧ p' ≤ n := by
  have hs := tkE_spec hB hp
  unfold zpS at h
  split at h
  · next h3 =>
    cases h
    have := hs.2.2.2 (by omega)
    exact ⟨by omega, hs.2.2.1⟩
  · cases h
theorem zpK_inr {B : Nat → Nat} {n k p p' : Nat} (hB : zBW B n) (hp : p ≤ n) (hk : k < 22) (h : zpK B k p = .inr p') : p < p' ∧ p' ≤ n := by
  have hs := tkE_spec hB hp
  unfold zpK at h
  split at h
  · next h3 =>
    cases h
    have := tkY_w (B := B) (p := p) (by omega)
    have := hs.2.2.2 (by omega)
    exact ⟨by omega, hs.2.2.1⟩
  · cases h
theorem zisN_K {B : Nat → Nat} {p : Nat} (h : zisN B p = true) : tkK B p = 2 ∧ tkE B p - tkS B p ≤ 8 ∧ tkY B p = 22 := by
  simpa [zisN, and_assoc] using h
theorem zfd_le (N : Nat → List Nat) (w : List Nat) (m : Nat) : zfd N w m ≤ m := by
  unfold zfd
  have : ∀ (f n : Nat), zlst (fun b => decide (N b = w)) f n ≤ n + f := by
    intro f
    induction f with
    | zero => intro n; exact Nat.le_refl _
    | succ f ih =>
      intro n
      simp only [zlst]
      split
      · omega
      · have := ih (n + 1)
        omega
  have := this m 0
  omega
theorem zpB_inr {B : Nat → Nat} {N : Nat → List Nat} {n m p b p' : Nat} (hB : zBW B n) (hp : p ≤ n) (h : zpB B N m p = .inr (b, p')) : p < p' ∧ p' ≤ n ∧ b < m := by
  have hs := tkE_spec hB hp
  unfold zpB at h
  split at h
  · cases h
  · next h3 =>
    split at h
    · cases h
    · next h4 =>
      cases h
      have h5 := zisN_K (B := B) (p := p) (by simpa using h3)
      have := hs.2.2.2 (by omega)
      have := zfd_le N (tkW B p) m
      exact ⟨by omega, hs.2.2.1, by omega⟩
/-- a boy more -/
def zcome (C : zC) (c p s e : Nat) : zC := zu (zu (zu (zu (zu (zu C 1 (C 0 0) c) 2 (C 0 0) p) 3 (C 0 0) s) 4 (C 0 0) e) 5 (C 0 0) 0) 0 0 (C 0 0 + 1)
theorem zcome_ne {C : zC} {c p s e f i : Nat} (h1 : ¬ (1 ≤ f ∧ f ≤ 5 ∧ i = C 0 0)) (h2 : ¬ (f = 0 ∧ i = 0)) : zcome C c p s e f i = C f i := by
  unfold zcome
  rw [zu_ne (by omega), zu_ne (by omega), zu_ne (by omega), zu_ne (by omega), zu_ne (by omega), zu_ne (by omega)]
theorem zcome_0 (C : zC) (c p s e : Nat) : zcome C c p s e 0 0 = C 0 0 + 1 := zu_eq
theorem zcome_b (C : zC) (c p s e f : Nat) (hf : f < 5) : zcome C c p s e (1 + f) (C 0 0) = if f = 0 then c else if f = 1 then p else if f = 2 then s else if f = 3 then e else 0 := by
  unfold zcome
  rcases (show f = 0 ∨ f = 1 ∨ f = 2 ∨ f = 3 ∨ f = 4 by omega) with rfl | rfl | rfl | rfl | rfl <;> simp [zu]
theorem zcome_W {C : zC} (hw : zW C) {c p s e : Nat} (hb : C 0 0 < 8) (hc : c < C 0 2 * C 0 3) (h1 : 1 ≤ p) (h2 : p ≤ 30) (hs : s ≤ 9) (he : e ≤ 9) : zW (zcome C c p s e) := by
  obtain ⟨wb, wq, ww1, ww2, wh1, wh2, wo, wm, wB, wQ⟩ := id hw
  have e0 : ∀ i, i ≠ 0 → zcome C c p s e 0 i = C 0 i := fun i hi => zcome_ne (by omega) (by omega)
  have eq : ∀ f i, 6 ≤ f → zcome C c p s e f i = C f i := fun f i hi => zcome_ne (by omega) (by omega)
  have g := zcome_b C c p s e
  refine ⟨?_, ?_, ?_, ?_, ?_, ?_, ?_, ?_, fun b hb1 => ?_, fun q hq => ?_⟩
  · rw [zcome_0]; omega
  · rw [e0 _ (by decide)]; exact wq
  · rw [e0 _ (by decide)]; exact ww1
  · rw [e0 _ (by decide)]; exact ww2
  · rw [e0 _ (by decide)]; exact wh1
  · rw [e0 _ (by decide)]; exact wh2
  · rw [e0 _ (by decide)]; exact wo
  · rw [e0 _ (by decide)]; exact wm
  · rw [zcome_0] at hb1
    rw [e0 2 (by decide), e0 3 (by decide)]
    by_cases eb : b = C 0 0
    · subst eb
      have g0 : zcome C c p s e 1 (C 0 0) = c := g 0 (by decide)
      have g1 : zcome C c p s e 2 (C 0 0) = p := g 1 (by decide)
      have g2 : zcome C c p s e 3 (C 0 0) = s := g 2 (by decide)
      have g3 : zcome C c p s e 4 (C 0 0) = e := g 3 (by decide)
      rw [g0, g1, g2, g3]
      exact ⟨hc, h1, h2, hs, he⟩
    · rw [zcome_ne (by omega) (by omega), zcome_ne (by omega) (by omega), zcome_ne (by omega) (by omega), zcome_ne (by omega) (by omega)]
      exact wB b (by omega)
  · rw [e0 1 (by decide)] at hq
    rw [eq 6 q (by decide), eq 7 q (by decide), eq 8 q (by decide), eq 9 q (by decide), zcome_0]
    have := wQ q hq
    omega
-- the camp's reader: camp, names, field told or a boy, odds told
abbrev zS : Type := zC × (Nat → List Nat) × Bool × Bool
def zC0 : zC := fun f i => if f = 0 then (if i = 2 then 4 else if i = 3 then 3 else if i = 4 then 4 else 0) else 0
theorem zC0_W : zW zC0 := by
  refine ⟨by decide, by decide, by decide, by decide, by decide, by decide, by decide, by decide, fun b hb => ?_, fun q hq => ?_⟩
  · exact absurd hb (Nat.not_lt_zero _)
  · exact absurd hq (Nat.not_lt_zero _)
/-- a number perhaps, behind word k -/
def zpP (B : Nat → Nat) (k d p : Nat) : zR (Nat × Nat) := if tkY B p = k then zpN B 0 9 (tkE B p) else .inr (d, p)
def zpField (B : Nat → Nat) (p : Nat) : zR ((Nat × Nat) × Nat) :=
  zbd (zpN B 1 6 p) fun a => zbd (zpK B 4 a.2) fun q => zbd (zpN B 1 6 q) fun b => .inr ((a.1, b.1), b.2)
/-- a boy's numbers: cell, pride, soft, ears -/
def zpBoyN (B : Nat → Nat) (cells p : Nat) : zR ((Nat × Nat × Nat × Nat) × Nat) :=
  zbd (zpK B 5 p) fun p1 => zbd (zpN B 0 (cells - 1) p1) fun c => zbd (zpK B 6 c.2) fun p2 => zbd (zpN B 1 30 p2) fun pr => zbd (zpP B 7 1 pr.2) fun s => zbd (zpP B 8 2 s.2) fun e => .inr ((c.1, pr.1, s.1, e.1), e.2)
def zpBoy (B : Nat → Nat) (D : zC) (N : Nat → List Nat) (p : Nat) : zR ((zC × (Nat → List Nat)) × Nat) :=
  if D 0 0 = 8 then .inl (zno B p 6)
  else if zisN B (tkE B p) = false then .inl (zno B (tkE B p) 2)
  else if zfd N (tkW B (tkE B p)) (D 0 0) ≠ D 0 0 then .inl (zno B (tkE B p) 3)
  else zbd (zpBoyN B (D 0 2 * D 0 3) (tkE B (tkE B p))) fun r => .inr ((zcome D r.1.1 r.1.2.1 r.1.2.2.1 r.1.2.2.2, fun b => if b = D 0 0 then tkW B (tkE B p) else N b), r.2)
def zpQuar (B : Nat → Nat) (D : zC) (N : Nat → List Nat) (p : Nat) : zR (zC × Nat) :=
  if D 0 1 = 10 then .inl (zno B p 6)
  else zbd (zpB B N (D 0 0) (tkE B p)) fun a => zbd (zpB B N (D 0 0) a.2) fun b => if a.1 = b.1 then .inl (zno B a.2 5)
  else zbd (zpK B 9 b.2) fun p1 => zbd (zpN B 0 99 p1) fun g => .inr (zboot D a.1 b.1 g.1, g.2)
/-- a part, its sign behind it left out -/
def zpPart0 (B : Nat → Nat) (s : zS) (p : Nat) : zR (zS × Nat) :=
  if tkY B p = 0 then (if s.2.2.1 = true then .inl (zno B p 5) else zbd (zpField B (tkE B p)) fun r => .inr ((zu (zu s.1 0 2 r.1.1) 0 3 r.1.2, s.2.1, true, s.2.2.2), r.2))
  else if tkY B p = 1 then (if s.2.2.2 = true then .inl (zno B p 5) else zbd (zpN B 0 16 (tkE B p)) fun r => .inr ((zu s.1 0 4 r.1, s.2.1, s.2.2.1, true), r.2))
  else if tkY B p = 2 then zbd (zpBoy B s.1 s.2.1 p) fun r => .inr ((r.1.1, r.1.2, true, s.2.2.2), r.2)
  else if tkY B p = 3 then zbd (zpQuar B s.1 s.2.1 p) fun r => .inr ((r.1, s.2.1, s.2.2.1, s.2.2.2), r.2)
  else .inl (zno B p 2)
def zpPart (B : Nat → Nat) (s : zS) (p : Nat) : zR (zS × Nat) := zbd (zpPart0 B s p) fun r => zbd (zpS B 59 r.2) fun q => .inr (r.1, q)
def zpCamp (B : Nat → Nat) : Nat → zS → Nat → zR zS
  | 0, s, _ => .inr s
  | f + 1, s, p => if tkK B p = 0 then .inr s else zbd (zpPart B s p) fun r => zpCamp B f r.1 r.2
/-- the camp that is read -/
def zrdC (B : Nat → Nat) : zR zS := zpCamp B 1000 (zC0, fun _ => [], false, false) 0
/-- names are words of 1 to 8 letters -/
def zNm (w : List Nat) : Prop := w.length ≤ 8 ∧ ∀ c, c ∈ w → zsm c = true
def zNW (m : Nat) (N : Nat → List Nat) : Prop := ∀ b, b < m → zNm (N b)
/-- what holds of a reader's camp -/
def zSW (s : zS) : Prop := zW s.1 ∧ zNW (s.1 0 0) s.2.1 ∧ (0 < s.1 0 0 → s.2.2.1 = true) ∧ s.1 0 5 = 0
