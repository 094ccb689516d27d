/-! the weeks' reader, abstractly -/
/-- lines, how many, steps, how many are begun, which -/
abbrev zQ : Type := (Nat → Nat → Nat) × Nat × Nat × Nat × (Nat → Nat)
def zr6 (k a b c e : Nat) : Nat → Nat := fun i => if i = 0 then k else if i = 1 then a else if i = 2 then b else if i = 3 then c else if i = 5 then e else 0
def zpTest (B : Nat → Nat) (N : Nat → List Nat) (m p : Nat) : zR ((Nat → Nat) × Nat) :=
  if tkY B p < 19 ∨ tkY B p = 22 then .inl (zno B p 2)
  else if tkY B p = 19 then zbd (zpB B N m (tkE B p)) fun a => .inr (zr6 1519 a.1 0 0 0, a.2)
  else if tkK B (tkE B p) = 4 ∧ (tkV B (tkE B p) = 60 ∨ tkV B (tkE B p) = 62 ∨ tkV B (tkE B p) = 61) then
    zbd (zpN B 0 (if tkY B p = 20 then 10 else 9999) (tkE B (tkE B p))) fun b => .inr (zr6 (1500 + tkY B p) 0 b.1 0 (tkV B (tkE B p)), b.2)
  else .inl (zno B (tkE B p) 2)
def zpRow (B : Nat → Nat) (N : Nat → List Nat) (m cells k p : Nat) : zR ((Nat → Nat) × Nat) :=
  if k = 10 then zbd (zpN B 1 60 p) fun a => .inr (zr6 10 a.1 0 0 0, a.2)
  else if k = 3 then zbd (zpB B N m p) fun a => zbd (zpB B N m a.2) fun b => zbd (zpN B 0 99 b.2) fun g => .inr (zr6 3 a.1 b.1 g.1 0, g.2)
  else if k = 12 then zbd (zpB B N m p) fun a => .inr (zr6 12 a.1 0 0 0, a.2)
  else if k = 13 then zbd (zpB B N m p) fun a => zbd (zpN B 0 (cells - 1) a.2) fun b => .inr (zr6 13 a.1 b.1 0 0, b.2)
  else if k = 16 then zbd (zpN B 1 99 p) fun a => .inr (zr6 16 a.1 0 0 0, a.2)
  else if k = 15 then zpTest B N m p
  else .inr (zr6 k 0 0 0 0, p)
def zpush (s : zQ) (k : Nat) (r : Nat → Nat) : zQ :=
  if k = 15 ∨ k = 16 then ((fun i j => if i = s.2.1 then r j else s.1 i j), s.2.1 + 1, s.2.2.1 + 1, s.2.2.2.1 + 1, fun i => if i = s.2.2.2.1 then s.2.1 else s.2.2.2.2 i)
  else if k = 17 then ((fun i j => if i = s.2.1 ∧ j = 4 then s.2.2.2.2 (s.2.2.2.1 - 1) else if i = s.2.2.2.2 (s.2.2.2.1 - 1) ∧ j = 4 then s.2.1 else if i = s.2.1 then r j else s.1 i j), s.2.1 + 1, s.2.2.1, s.2.2.2.1 - 1, s.2.2.2.2)
  else ((fun i j => if i = s.2.1 then r j else s.1 i j), s.2.1 + 1, s.2.2.1 + 1, s.2.2.2.1, s.2.2.2.2)
def zpBegin (B : Nat → Nat) (s : zQ) (p : Nat) : Option Nat :=
  if (tkY B p ≠ 3 ∧ (tkY B p < 10 ∨ 18 < tkY B p)) ∨ (tkY B p = 17 ∧ s.2.2.2.1 = 0) then some 2
  else if tkY B p ≠ 17 ∧ s.2.2.1 = 30 then some 6
  else if (tkY B p = 15 ∨ tkY B p = 16) ∧ s.2.2.2.1 = 3 then some 7
  else none
def zpStep (B : Nat → Nat) (N : Nat → List Nat) (m cells : Nat) (s : zQ) (p : Nat) : zR (zQ × Nat) :=
  match zpBegin B s p with
  | some f => .inl (zno B p f)
  | none => zbd (zpRow B N m cells (tkY B p) (tkE B p)) fun r => zbd (zpS B 59 r.2) fun q => .inr (zpush s (tkY B p) r.1, q)
def zpWeeks (B : Nat → Nat) (N : Nat → List Nat) (m cells : Nat) : Nat → zQ → Nat → zR zQ
  | 0, s, _ => .inr s
  | f + 1, s, p => if tkK B p = 0 then (if s.2.2.2.1 = 0 then .inr s else .inl (zno B p 2)) else zbd (zpStep B N m cells s p) fun r => zpWeeks B N m cells f r.1 r.2
def zQ0 : zQ := (fun _ _ => 0, 0, 0, 0, fun _ => 0)
/-- the weeks that are read -/
def zrdW (B : Nat → Nat) (N : Nat → List Nat) (m cells : Nat) : zR zQ := zpWeeks B N m cells 1000 zQ0 0
/-- a row's numbers are right -/
def zWr (r : Nat → Nat) (boys cells : Nat) : Prop :=
  (r 0 = 3 ∨ (10 ≤ r 0 ∧ r 0 ≤ 14) ∨ (16 ≤ r 0 ∧ r 0 ≤ 18) ∨ (1519 ≤ r 0 ∧ r 0 ≤ 1521)) ∧
    (r 0 = 10 → 1 ≤ r 1 ∧ r 1 ≤ 60) ∧ (r 0 = 3 → r 1 < boys ∧ r 2 < boys ∧ r 3 ≤ 99) ∧ (r 0 = 12 → r 1 < boys) ∧ (r 0 = 13 → r 1 < boys ∧ r 2 < cells) ∧
    (r 0 = 16 → 1 ≤ r 1 ∧ r 1 ≤ 99) ∧ (r 0 = 1519 → r 1 < boys) ∧ (1520 ≤ r 0 → r 2 ≤ 9999 ∧ (r 5 = 60 ∨ r 5 = 61 ∨ r 5 = 62))
theorem zWr_congr {r r' : Nat → Nat} {boys cells : Nat} (h : zWr r boys cells) (e : ∀ j, j ≠ 4 → r' j = r j) : zWr r' boys cells := by
  unfold zWr at h ⊢
  rw [e 0 (by decide), e 1 (by decide), e 2 (by decide), e 3 (by decide), e 5 (by decide)]
  exact h
def zWn (r : Nat → Nat) : Prop := ∀ j, 1 ≤ j → j ≤ 5 → r j ≤ 9999
/-- what holds in the weeks' reader -/
def zQW (boys cells : Nat) (s : zQ) : Prop :=
  s.2.2.1 ≤ 30 ∧ s.2.1 + s.2.2.2.1 ≤ 2 * s.2.2.1 ∧ s.2.2.2.1 ≤ 3 ∧
  (∀ i, i < s.2.2.2.1 → s.2.2.2.2 i < s.2.1 ∧ zWo s.1 (s.2.2.2.2 i) ∧ s.1 (s.2.2.2.2 i) 4 = 0) ∧
  (∀ i j, i < j → j < s.2.2.2.1 → s.2.2.2.2 i < s.2.2.2.2 j) ∧
  (∀ k, k < s.2.1 → zWr (s.1 k) boys cells) ∧
  (∀ k, k < s.2.1 → zWo s.1 k → (∃ i, i < s.2.2.2.1 ∧ s.2.2.2.2 i = k) ∨ (k < s.1 k 4 ∧ s.1 k 4 < s.2.1 ∧ s.1 (s.1 k 4) 0 = 17 ∧ s.1 (s.1 k 4) 4 = k)) ∧
  (∀ k, k < s.2.1 → s.1 k 0 = 17 → s.1 k 4 < k ∧ s.1 (s.1 k 4) 4 = k ∧ zWo s.1 (s.1 k 4)) ∧
  (∀ o o', o < o' → o' < s.1 o 4 → o' < s.2.1 → zWo s.1 o → zWo s.1 o' → s.1 o' 4 < s.1 o 4) ∧
  (∀ i o, i < s.2.2.2.1 → o < s.2.2.2.2 i → zWo s.1 o → s.1 o 4 < s.2.2.2.2 i)
theorem zQW_W {boys cells : Nat} {s : zQ} (h : zQW boys cells s) (h0 : s.2.2.2.1 = 0) : zWW s.1 s.2.1 boys cells := by
  obtain ⟨a, b, c, d, e, f, g, i, j, k⟩ := h
  refine ⟨by omega, fun q hq => ?_, j⟩
  have r := f q hq
  refine ⟨r.1, r.2.1, r.2.2.1, r.2.2.2.1, r.2.2.2.2.1, r.2.2.2.2.2.1, r.2.2.2.2.2.2.1, r.2.2.2.2.2.2.2, fun ho => ?_, i q hq⟩
  rcases g q hq ho with ⟨i1, h1, -⟩ | h1
  · omega
  · exact h1
theorem zQW_0 (boys cells : Nat) : zQW boys cells zQ0 :=
  ⟨by decide, by decide, by decide, fun i hi => absurd hi (Nat.not_lt_zero _), fun i j _ hj => absurd hj (Nat.not_lt_zero _), fun k hk => absurd hk (Nat.not_lt_zero _), fun k hk => absurd hk (Nat.not_lt_zero _), fun k hk => absurd hk (Nat.not_lt_zero _), fun o o' _ h2 => absurd h2 (Nat.not_lt_zero _), fun i o hi => absurd hi (Nat.not_lt_zero _)⟩
theorem zr6_r {boys cells k a b c e : Nat} : zr6 k a b c e 0 = k ∧ zr6 k a b c e 1 = a ∧ zr6 k a b c e 2 = b ∧ zr6 k a b c e 3 = c ∧ zr6 k a b c e 4 = 0 ∧ zr6 k a b c e 5 = e := ⟨rfl, rfl, rfl, rfl, rfl, rfl⟩
/-- what a row's reader gives -/
def zRg (boys cells k : Nat) (r : Nat → Nat) : Prop := zWr r boys cells ∧ r 4 = 0 ∧ (if k = 15 then 1519 ≤ r 0 ∧ r 0 ≤ 1521 else r 0 = k)
theorem zpTest_inr {B : Nat → Nat} {N : Nat → List Nat} {n m cells p : Nat} {r : (Nat → Nat) × Nat} (hB : zBW B n) (hp : p ≤ n) (h : zpTest B N m p = .inr r) : p ≤ r.2 ∧ r.2 ≤ n ∧ zRg m cells 15 r.1 := by
  have hs := tkE_spec hB hp
  have hy := tkY_le B p
  have hs2 := tkE_spec hB hs.2.2.1
  unfold zpTest at h
  split at h
  · cases h
  · next h1 =>
    split at h
    · obtain ⟨a, ha, h⟩ := zbd_inr h
      cases h
      have g := zpB_inr hB hs.2.2.1 ha
      refine ⟨by show p ≤ a.2; omega, g.2.1, ?_, rfl, ?_⟩
      · simp [zWr, zr6]
        exact g.2.2
      · simp [zr6]
    · next h2 =>
      split at h
      · next h3 =>
        obtain ⟨b, hb, h⟩ := zbd_inr h
        cases h
        have g := zpN_inr hB hs2.2.2.1 hb
        have h9 : b.1 ≤ 9999 := by
          have := g.2.2.2
          split at this <;> omega
        refine ⟨by show p ≤ b.2; omega, g.2.1, ?_, rfl, ?_⟩
        · refine ⟨?_, ?_, ?_, ?_, ?_, ?_, ?_, ?_⟩ <;> simp [zr6] <;> omega
        · simp only [zr6, if_true]
          omega
      · cases h
theorem zpRow_inr {B : Nat → Nat} {N : Nat → List Nat} {n m cells k p : Nat} {r : (Nat → Nat) × Nat} (hB : zBW B n) (hp : p ≤ n) (hc : 0 < cells) (hk : k = 3 ∨ (10 ≤ k ∧ k ≤ 18)) (h : zpRow B N m cells k p = .inr r) : p ≤ r.2 ∧ r.2 ≤ n ∧ zRg m cells k r.1 := by
  unfold zpRow at h
  split at h
  · next e =>
    subst e
    obtain ⟨a, ha, h⟩ := zbd_inr h
    cases h
    have g := zpN_inr hB hp ha
    exact ⟨by show p ≤ a.2; omega, g.2.1, by simp [zWr, zr6]; omega, rfl, by simp [zr6]⟩
  · split at h
    · next e =>
      subst e
      obtain ⟨a, ha, h⟩ := zbd_inr h
      obtain ⟨b, hb, h⟩ := zbd_inr h
      obtain ⟨c, hc, h⟩ := zbd_inr h
      cases h
      have g := zpB_inr hB hp ha
      have g2 := zpB_inr hB g.2.1 hb
      have g3 := zpN_inr hB g2.2.1 hc
      exact ⟨by show p ≤ c.2; omega, g3.2.1, by simp [zWr, zr6]; omega, rfl, by simp [zr6]⟩
    · split at h
      · next e =>
        subst e
        obtain ⟨a, ha, h⟩ := zbd_inr h
        cases h
        have g := zpB_inr hB hp ha
        exact ⟨by show p ≤ a.2; omega, g.2.1, by simp [zWr, zr6]; omega, rfl, by simp [zr6]⟩
      · split at h
        · next e =>
          subst e
          obtain ⟨a, ha, h⟩ := zbd_inr h
          obtain ⟨b, hb, h⟩ := zbd_inr h
          cases h
          have g := zpB_inr hB hp ha
          have g2 := zpN_inr hB g.2.1 hb
          exact ⟨by show p ≤ b.2; omega, g2.2.1, by simp [zWr, zr6]; omega, rfl, by simp [zr6]⟩
        · split at h
          · next e =>
            subst e
            obtain ⟨a, ha, h⟩ := zbd_inr h
            cases h
            have g := zpN_inr hB hp ha
            exact ⟨by show p ≤ a.2; omega, g.2.1, by simp [zWr, zr6]; omega, rfl, by simp [zr6]⟩
          · split at h
            · next e =>
              subst e
              exact zpTest_inr hB hp h
            · cases h
              refine ⟨Nat.le_refl _, hp, ?_, rfl, ?_⟩
              · refine ⟨?_, ?_, ?_, ?_, ?_, ?_, ?_, ?_⟩ <;> simp [zr6] <;> omega
              · rw [if_neg (by assumption)]
                rfl
theorem zpush_W {boys cells k : Nat} {s : zQ} {r : Nat → Nat} (h : zQW boys cells s) (hk : k = 3 ∨ (10 ≤ k ∧ k ≤ 18)) (h6 : k ≠ 17 → s.2.2.1 < 30) (h7 : k = 15 ∨ k = 16 → s.2.2.2.1 < 3) (h2 : k = 17 → 0 < s.2.2.2.1) (hr : zRg boys cells k r) : zQW boys cells (zpush s k r) := by
  obtain ⟨a, b, c, d, e, f, g, i, j, l⟩ := h
  obtain ⟨r1, r4, r0⟩ := hr
  obtain ⟨W, n, st, dp, op⟩ := s
  dsimp only at a b c d e f g i j l h6 h7 h2
  unfold zpush
  dsimp only
  by_cases ho : k = 15 ∨ k = 16
  · rw [if_pos ho]
    have hro : r 0 = 16 ∨ 1500 ≤ r 0 := by
      split at r0 <;> omega
    have h17 : r 0 ≠ 17 := by
      split at r0 <;> omega
    have h3 := h7 ho
    have h30 := h6 (by omega)
    -- the old rows are the old ones
    have eo : ∀ q, q < n → ∀ x, (if q = n then r x else W q x) = W q x := fun q hq x => if_neg (by omega)
    have eW : ∀ q, q < n → (zWo (fun i j => if i = n then r j else W i j) q ↔ zWo W q) := fun q hq => by
      unfold zWo
      dsimp only
      rw [if_neg (by omega)]
    refine ⟨by dsimp only; omega, by dsimp only; omega, by dsimp only; omega, ?_, ?_, ?_, ?_, ?_, ?_, ?_⟩ <;> dsimp only
    · intro q hq
      by_cases eq : q = dp
      · subst eq
        rw [if_pos rfl, if_pos rfl]
        refine ⟨by omega, ?_, r4⟩
        unfold zWo
        dsimp only
        rw [if_pos rfl]
        exact hro
      · rw [if_neg eq]
        have := d q (by omega)
        rw [eo _ this.1, eW _ this.1]
        exact ⟨by omega, this.2⟩
    · intro q q' h1 h2
      by_cases eq : q' = dp
      · rw [if_neg (by omega), if_pos eq]
        exact (d q (by omega)).1
      · rw [if_neg (by omega), if_neg eq]
        exact e q q' h1 (by omega)
    · intro q hq
      by_cases eq : q = n
      · subst eq
        exact zWr_congr r1 fun x _ => if_pos rfl
      · exact zWr_congr (f q (by omega)) fun x _ => if_neg eq
    · intro q hq hw
      by_cases eq : q = n
      · subst eq
        exact Or.inl ⟨dp, by omega, if_pos rfl⟩
      · rw [eW q (by omega)] at hw
        rcases g q (by omega) hw with ⟨x, x1, x2⟩ | x
        · exact Or.inl ⟨x, by omega, by rw [if_neg (by omega)]; exact x2⟩
        · refine Or.inr ?_
          rw [if_neg eq, if_neg (by omega), if_neg (by omega)]
          exact ⟨x.1, by omega, x.2.2⟩
    · intro q hq h1
      by_cases eq : q = n
      · subst eq
        rw [if_pos rfl] at h1
        exact absurd h1 h17
      · rw [if_neg eq] at h1
        have := i q (by omega) h1
        rw [if_neg eq, if_neg (by omega), eW _ (by omega)]
        exact this
    · intro o o' h1 h2 h3 h4 h5
      have ho1 : o < n := by omega
      rw [eo o ho1] at h2 ⊢
      rw [eW o ho1] at h4
      by_cases eq : o' = n
      · subst eq
        rw [if_pos rfl, r4]
        omega
      · rw [if_neg eq]
        rw [eW o' (by omega)] at h5
        exact j o o' h1 h2 (by omega) h4 h5
    · intro q o hq h1 h2
      by_cases eq : q = dp
      · rw [if_pos eq] at h1 ⊢
        rw [if_neg (by omega)]
        rw [eW o h1] at h2
        rcases g o h1 h2 with ⟨x, x1, x2⟩ | x
        · have := d x x1
          rw [x2] at this
          omega
        · exact x.2.1
      · rw [if_neg eq] at h1 ⊢
        have := d q (by omega)
        rw [if_neg (by omega)]
        rw [eW o (by omega)] at h2
        exact l q o (by omega) h1 h2
  · rw [if_neg ho]
    by_cases hc : k = 17
    · rw [if_pos hc]
      have hd := h2 hc
      have r17 : r 0 = 17 := by
        rw [if_neg (by omega)] at r0
        omega
      obtain ⟨s1, s2, s3⟩ := d (dp - 1) (by omega)
      have s0 : ∀ x, x < dp - 1 → op x < op (dp - 1) := fun x hx => e x (dp - 1) hx (by omega)
      have sg := l (dp - 1)
      have sg' : ∀ o, o < op (dp - 1) → zWo W o → W o 4 < op (dp - 1) := fun o h1 h2 => sg o (by omega) h1 h2
      have sz : ∀ x, x = dp - 1 → op x = op (dp - 1) := fun x hx => by rw [hx]
      obtain ⟨z, hzz⟩ : ∃ z, op (dp - 1) = z := ⟨_, rfl⟩
      simp only [hzz] at s1 s2 s3 s0 sg' sz ⊢
      have e0 : ∀ q, (if q = n ∧ (0 : Nat) = 4 then z else if q = z ∧ (0 : Nat) = 4 then n else if q = n then r 0 else W q 0) = if q = n then r 0 else W q 0 := fun q => by
        rw [if_neg (by omega), if_neg (by omega)]
      have eW : ∀ q, q < n → (zWo (fun i j => if i = n ∧ j = 4 then z else if i = z ∧ j = 4 then n else if i = n then r j else W i j) q ↔ zWo W q) := fun q hq => by
        unfold zWo
        dsimp only
        rw [e0, if_neg (by omega)]
      have eN : ¬ zWo (fun i j => if i = n ∧ j = 4 then z else if i = z ∧ j = 4 then n else if i = n then r j else W i j) n := fun h => by
        unfold zWo at h
        dsimp only at h
        rw [e0, if_pos rfl] at h
        omega
      have e4 : ∀ q, q < n → q ≠ z → (if q = n ∧ (4 : Nat) = 4 then z else if q = z ∧ (4 : Nat) = 4 then n else if q = n then r 4 else W q 4) = W q 4 := fun q h1 h2 => by
        rw [if_neg (by omega), if_neg (by omega), if_neg (by omega)]
      have e4z : (if z = n ∧ (4 : Nat) = 4 then z else if z = z ∧ (4 : Nat) = 4 then n else if z = n then r 4 else W z 4) = n := by
        rw [if_neg (by omega), if_pos ⟨rfl, rfl⟩]
      have e4n : (if n = n ∧ (4 : Nat) = 4 then z else if n = z ∧ (4 : Nat) = 4 then n else if n = n then r 4 else W n 4) = z := if_pos ⟨rfl, rfl⟩
      refine ⟨by dsimp only; omega, by dsimp only; omega, by dsimp only; omega, ?_, ?_, ?_, ?_, ?_, ?_, ?_⟩ <;> dsimp only
      · intro q hq
        have := d q (by omega)
        have hz := s0 q hq
        rw [eW _ this.1, e4 _ this.1 (by omega)]
        exact ⟨by omega, this.2⟩
      · intro q q' h1 h2
        exact e q q' h1 (by omega)
      · intro q hq
        by_cases eq : q = n
        · subst eq
          exact zWr_congr r1 fun x hx => by rw [if_neg (by omega), if_neg (by omega), if_pos rfl]
        · exact zWr_congr (f q (by omega)) fun x hx => by rw [if_neg (by omega), if_neg (by omega), if_neg (by omega)]
      · intro q hq hw
        by_cases eq : q = n
        · subst eq
          exact absurd hw eN
        · rw [eW q (by omega)] at hw
          by_cases ez : q = z
          · subst ez
            refine Or.inr ?_
            rw [e4z, e4n, e0, if_pos rfl]
            exact ⟨by omega, by omega, r17, rfl⟩
          · rcases g q (by omega) hw with ⟨x, x1, x2⟩ | x
            · refine Or.inl ⟨x, ?_, x2⟩
              rcases Nat.lt_or_ge x (dp - 1) with h | h
              · exact h
              · exact absurd (x2.symm.trans (sz x (by omega))) ez
            · refine Or.inr ?_
              have hz : W q 4 ≠ z := by
                intro h
                rw [h] at x
                have x3 := x.2.2.1
                unfold zWo at s2
                omega
              rw [e4 q (by omega) ez, e0, if_neg (by omega), e4 _ x.2.1 hz]
              exact ⟨x.1, by omega, x.2.2⟩
      · intro q hq h1
        by_cases eq : q = n
        · subst eq
          rw [e4n, e4z, eW z s1]
          exact ⟨s1, rfl, s2⟩
        · rw [e0, if_neg eq] at h1
          have := i q (by omega) h1
          have hq17 : ¬ zWo W q := by unfold zWo; omega
          have hqz : q ≠ z := fun h => hq17 (h ▸ s2)
          have hz : W q 4 ≠ z := by
            intro h
            rw [h] at this
            omega
          rw [e4 q (by omega) hqz, e4 _ (by omega) hz, eW _ (by omega)]
          exact this
      · intro o o' h1 h2 h3 h4 h5
        have ho1 : o < n := by omega
        rw [eW o ho1] at h4
        have ho' : o' ≠ n := fun h => eN (h ▸ h5)
        have ho2 : o' < n := by omega
        rw [eW o' ho2] at h5
        by_cases ez : o = z
        · subst ez
          rw [e4z] at h2 ⊢
          rw [e4 o' ho2 (by omega)]
          rcases g o' ho2 h5 with ⟨x, x1, x2⟩ | x
          · have := d x x1
            rw [x2] at this
            omega
          · exact x.2.1
        · rw [e4 o ho1 ez] at h2 ⊢
          by_cases ez' : o' = z
          · subst ez'
            have := sg' o h1 h4
            omega
          · rw [e4 o' ho2 ez']
            exact j o o' h1 h2 ho2 h4 h5
      · intro q o hq h1 h2
        have hz := s0 q hq
        have hq1 := d q (by omega)
        rw [eW o (by omega)] at h2
        rw [e4 o (by omega) (by omega)]
        exact l q o (by omega) h1 h2
    · rw [if_neg hc]
      have h30 := h6 hc
      have hro : ¬ (r 0 = 16 ∨ 1500 ≤ r 0) := by
        rw [if_neg (by omega)] at r0
        omega
      have h17 : r 0 ≠ 17 := by
        rw [if_neg (by omega)] at r0
        omega
      have eW : ∀ q, q < n → (zWo (fun i j => if i = n then r j else W i j) q ↔ zWo W q) := fun q hq => by
        unfold zWo
        dsimp only
        rw [if_neg (by omega)]
      have eN : ¬ zWo (fun i j => if i = n then r j else W i j) n := fun h => by
        unfold zWo at h
        dsimp only at h
        rw [if_pos rfl] at h
        exact hro h
      refine ⟨by dsimp only; omega, by dsimp only; omega, by dsimp only; omega, ?_, ?_, ?_, ?_, ?_, ?_, ?_⟩ <;> dsimp only
      · intro q hq
        have := d q hq
        rw [if_neg (by omega), eW _ this.1]
        exact ⟨by omega, this.2⟩
      · exact e
      · intro q hq
        by_cases eq : q = n
        · subst eq
          exact zWr_congr r1 fun x _ => if_pos rfl
        · exact zWr_congr (f q (by omega)) fun x _ => if_neg eq
      · intro q hq hw
        by_cases eq : q = n
        · subst eq
          exact absurd hw eN
        · rw [eW q (by omega)] at hw
          rcases g q (by omega) hw with x | x
          · exact Or.inl x
          · refine Or.inr ?_
            rw [if_neg eq, if_neg (by omega), if_neg (by omega)]
            exact ⟨x.1, by omega, x.2.2⟩
      · intro q hq h1
        by_cases eq : q = n
        · subst eq
          rw [if_pos rfl] at h1
          exact absurd h1 h17
        · rw [if_neg eq] at h1
          have := i q (by omega) h1
          rw [if_neg eq, if_neg (by omega), eW _ (by omega)]
          exact this
      · intro o o' h1 h2 h3 h4 h5
        have ho1 : o < n := by omega
        rw [if_neg (show ¬ o = n by omega)] at h2 ⊢
        rw [eW o ho1] at h4
        have ho' : o' ≠ n := fun h => eN (h ▸ h5)
        rw [if_neg ho']
        rw [eW o' (by omega)] at h5
        exact j o o' h1 h2 (by omega) h4 h5
      · intro q o hq h1 h2
        have := d q hq
        rw [if_neg (by omega)]
        rw [eW o (by omega)] at h2
        exact l q o hq h1 h2
theorem zpBegin_n {B : Nat → Nat} {s : zQ} {p : Nat} (h : zpBegin B s p = none) : (tkY B p = 3 ∨ (10 ≤ tkY B p ∧ tkY B p ≤ 18)) ∧ (tkY B p = 17 → s.2.2.2.1 ≠ 0) ∧ (tkY B p ≠ 17 → s.2.2.1 ≠ 30) ∧ (tkY B p = 15 ∨ tkY B p = 16 → s.2.2.2.1 ≠ 3) := by
  unfold zpBegin at h
  split at h
  · cases h
  · split at h
    · cases h
    · split at h
      · cases h
      · refine ⟨by omega, by omega, by omega, by omega⟩
theorem zpStep_inr {B : Nat → Nat} {N : Nat → List Nat} {n m cells p : Nat} {s : zQ} {r : zQ × Nat} (hB : zBW B n) (hp : p ≤ n) (hc : 0 < cells) (hs : zQW m cells s) (h : zpStep B N m cells s p = .inr r) : p < r.2 ∧ r.2 ≤ n ∧ zQW m cells r.1 := by
  have ht := tkE_spec hB hp
  unfold zpStep at h
  split at h
  · cases h
  · next hb =>
    have hb := zpBegin_n hb
    obtain ⟨q, hq, h⟩ := zbd_inr h
    obtain ⟨e, he, h⟩ := zbd_inr h
    cases h
    have g := zpRow_inr hB ht.2.2.1 hc hb.1 hq
    have g2 := zpS_inr hB g.2.1 he
    have h30 := hs.1
    have h3 := hs.2.2.1
    exact ⟨by show p < e; omega, g2.2, zpush_W hs hb.1 (fun hk => by have := hb.2.2.1 hk; omega) (fun hk => by have := hb.2.2.2 hk; omega) (fun hk => by have := hb.2.1 hk; omega) g.2.2⟩
theorem zpWeeks_W {B : Nat → Nat} {N : Nat → List Nat} {n m cells : Nat} (hB : zBW B n) (hc : 0 < cells) : ∀ f s p r, p ≤ n → n - p < f → zQW m cells s → zpWeeks B N m cells f s p = .inr r → zQW m cells r ∧ r.2.2.2.1 = 0
  | 0, s, p, r, _, hf, _, _ => by omega
  | f + 1, s, p, r, hp, hf, hs, h => by
    rw [zpWeeks] at h
    split at h
    · split at h
      · cases h
        exact ⟨hs, by assumption⟩
      · cases h
    · obtain ⟨q, hq, h⟩ := zbd_inr h
      have g := zpStep_inr hB hp hc hs hq
      exact zpWeeks_W hB hc f q.1 q.2 r g.2.1 (by omega) g.2.2 h
