/-! the camp's reader goes forward and keeps what holds -/
theorem zpP_inr {B : Nat → Nat} {n k d p v p' : Nat} (hB : zBW B n) (hp : p ≤ n) (hk : k < 22) (hd : d ≤ 9) (h : zpP B k d p = .inr (v, p')) : p ≤ p' ∧ p' ≤ n ∧ v ≤ 9 := by
  have hs := tkE_spec hB hp
  unfold zpP at h
  split at h
  · have := zpN_inr hB hs.2.2.1 h
    omega
  · cases h
    exact ⟨Nat.le_refl _, hp, hd⟩
theorem zpField_inr {B : Nat → Nat} {n p : Nat} {r : (Nat × Nat) × Nat} (hB : zBW B n) (hp : p ≤ n) (h : zpField B p = .inr r) : p < r.2 ∧ r.2 ≤ n ∧ 1 ≤ r.1.1 ∧ r.1.1 ≤ 6 ∧ 1 ≤ r.1.2 ∧ r.1.2 ≤ 6 := by
  unfold zpField at h
  obtain ⟨a, ha, h⟩ := zbd_inr h
  obtain ⟨q, hq, h⟩ := zbd_inr h
  obtain ⟨b, hb, h⟩ := zbd_inr h
  cases h
  have h1 := zpN_inr hB hp ha
  have h2 := zpK_inr hB h1.2.1 (by decide) hq
  have h3 := zpN_inr hB h2.2 hb
  exact ⟨by omega, h3.2.1, h1.2.2.1, h1.2.2.2, h3.2.2.1, h3.2.2.2⟩
theorem zpBoyN_inr {B : Nat → Nat} {n cells p : Nat} {r : (Nat × Nat × Nat × Nat) × Nat} (hB : zBW B n) (hp : p ≤ n) (hc : 0 < cells) (h : zpBoyN B cells p = .inr r) : p < r.2 ∧ r.2 ≤ n ∧ r.1.1 < cells ∧ 1 ≤ r.1.2.1 ∧ r.1.2.1 ≤ 30 ∧ r.1.2.2.1 ≤ 9 ∧ r.1.2.2.2 ≤ 9 := by
  unfold zpBoyN at h
  obtain ⟨p1, h1, h⟩ := zbd_inr h
  obtain ⟨c, h2, h⟩ := zbd_inr h
  obtain ⟨p2, h3, h⟩ := zbd_inr h
  obtain ⟨pr, h4, h⟩ := zbd_inr h
  obtain ⟨s, h5, h⟩ := zbd_inr h
  obtain ⟨e, h6, h⟩ := zbd_inr h
  cases h
  have g1 := zpK_inr hB hp (by decide) h1
  have g2 := zpN_inr hB g1.2 h2
  have g3 := zpK_inr hB g2.2.1 (by decide) h3
  have g4 := zpN_inr hB g3.2 h4
  have g5 := zpP_inr hB g4.2.1 (by decide) (by decide) h5
  have g6 := zpP_inr hB g5.2.1 (by decide) (by decide) h6
  exact ⟨by show p < e.2; omega, g6.2.1, by show c.1 < cells; omega, g4.2.2.1, g4.2.2.2, g5.2.2, g6.2.2⟩
theorem tkW_len (B : Nat → Nat) (p : Nat) : (tkW B p).length = tkE B p - tkS B p := by
  unfold tkW
  rw [List.length_map, List.length_range]
theorem tkW_Nm {B : Nat → Nat} {n p : Nat} (hB : zBW B n) (hp : p ≤ n) (h : zisN B p = true) : zNm (tkW B p) := by
  obtain ⟨h1, h2, h3⟩ := zisN_K h
  refine ⟨by rw [tkW_len]; exact h2, fun c hc => ?_⟩
  unfold tkW at hc
  obtain ⟨i, hi, rfl⟩ := List.mem_map.mp hc
  exact (tkW_sm hB hp h1).1 i (List.mem_range.mp hi)
theorem zuf_W {C : zC} (hw : zW C) (h0 : C 0 0 = 0) {w h : Nat} (a : 1 ≤ w) (b : w ≤ 6) (c : 1 ≤ h) (d : h ≤ 6) : zW (zu (zu C 0 2 w) 0 3 h) := by
  obtain ⟨wb, wq, ww1, ww2, wh1, wh2, wo, wm, wB, wQ⟩ := id hw
  have e : ∀ f i, f ≠ 0 → zu (zu C 0 2 w) 0 3 h f i = C f i := fun f i hf => by rw [zu_ne (by omega), zu_ne (by omega)]
  have e0 : ∀ i, i ≠ 2 → i ≠ 3 → zu (zu C 0 2 w) 0 3 h 0 i = C 0 i := fun i h2 h3 => by rw [zu_ne (by omega), zu_ne (by omega)]
  have e2 : zu (zu C 0 2 w) 0 3 h 0 2 = w := by rw [zu_ne (by omega), zu_eq]
  have e3 : zu (zu C 0 2 w) 0 3 h 0 3 = h := zu_eq
  refine ⟨?_, ?_, ?_, ?_, ?_, ?_, ?_, ?_, fun b hb1 => ?_, fun q hq => ?_⟩
  · rw [e0 0 (by decide) (by decide)]; exact wb
  · rw [e0 1 (by decide) (by decide)]; exact wq
  · rw [e2]; exact a
  · rw [e2]; exact b
  · rw [e3]; exact c
  · rw [e3]; exact d
  · rw [e0 4 (by decide) (by decide)]; exact wo
  · rw [e0 5 (by decide) (by decide)]; exact wm
  · rw [e0 0 (by decide) (by decide), h0] at hb1
    exact absurd hb1 (Nat.not_lt_zero _)
  · rw [e0 1 (by decide) (by decide)] at hq
    rw [e 6 q (by decide), e 7 q (by decide), e 8 q (by decide), e 9 q (by decide), e0 0 (by decide) (by decide)]
    exact wQ q hq
theorem zuo_W {C : zC} (hw : zW C) {v : Nat} (h : v ≤ 16) : zW (zu C 0 4 v) := by
  obtain ⟨wb, wq, ww1, ww2, wh1, wh2, wo, wm, wB, wQ⟩ := id hw
  have e : ∀ f i, f ≠ 0 → zu C 0 4 v f i = C f i := fun f i hf => zu_ne (by omega)
  have e0 : ∀ i, i ≠ 4 → zu C 0 4 v 0 i = C 0 i := fun i h2 => zu_ne (by omega)
  have e4 : zu C 0 4 v 0 4 = v := zu_eq
  refine ⟨?_, ?_, ?_, ?_, ?_, ?_, ?_, ?_, fun b hb1 => ?_, fun q hq => ?_⟩
  · rw [e0 0 (by decide)]; exact wb
  · rw [e0 1 (by decide)]; exact wq
  · rw [e0 2 (by decide)]; exact ww1
  · rw [e0 2 (by decide)]; exact ww2
  · rw [e0 3 (by decide)]; exact wh1
  · rw [e0 3 (by decide)]; exact wh2
  · rw [e4]; exact h
  · rw [e0 5 (by decide)]; exact wm
  · rw [e0 0 (by decide)] at hb1
    rw [e 1 b (by decide), e 2 b (by decide), e 3 b (by decide), e 4 b (by decide), e0 2 (by decide), e0 3 (by decide)]
    exact wB b hb1
  · rw [e0 1 (by decide)] at hq
    rw [e 6 q (by decide), e 7 q (by decide), e 8 q (by decide), e 9 q (by decide), e0 0 (by decide)]
    exact wQ q hq
theorem zSW_cells {C : zC} (hw : zW C) : 0 < C 0 2 * C 0 3 ∧ C 0 2 * C 0 3 ≤ 36 := by
  have h1 := hw.2.2.1
  have h2 := hw.2.2.2.2.1
  have h3 : C 0 2 * C 0 3 ≤ 6 * 6 := Nat.mul_le_mul hw.2.2.2.1 hw.2.2.2.2.2.1
  exact ⟨Nat.mul_pos h1 h2, h3⟩
theorem zpBoy_inr {B : Nat → Nat} {n p : Nat} {D : zC} {N : Nat → List Nat} {r : (zC × (Nat → List Nat)) × Nat} (hB : zBW B n) (hp : p ≤ n) (hw : zW D) (hN : zNW (D 0 0) N) (h5 : D 0 5 = 0) (h : zpBoy B D N p = .inr r) : p < r.2 ∧ r.2 ≤ n ∧ zW r.1.1 ∧ zNW (r.1.1 0 0) r.1.2 ∧ r.1.1 0 5 = 0 := by
  have hs := tkE_spec hB hp
  have hs2 := tkE_spec hB hs.2.2.1
  have hc := zSW_cells hw
  unfold zpBoy at h
  split at h
  · cases h
  · next hb =>
    split at h
    · cases h
    · next hi =>
      split at h
      · cases h
      · obtain ⟨q, hq, h⟩ := zbd_inr h
        cases h
        have g := zpBoyN_inr hB hs2.2.2.1 hc.1 hq
        have hbl := hw.1
        refine ⟨?_, g.2.1, zcome_W hw (by omega) g.2.2.1 g.2.2.2.1 g.2.2.2.2.1 g.2.2.2.2.2.1 g.2.2.2.2.2.2, fun b hb1 => ?_, ?_⟩
        · show p < q.2
          have := g.1
          omega
        · show zNm (if b = D 0 0 then tkW B (tkE B p) else N b)
          have hb1 : b < zcome D q.1.1 q.1.2.1 q.1.2.2.1 q.1.2.2.2 0 0 := hb1
          rw [zcome_0] at hb1
          split
          · exact tkW_Nm hB hs.2.2.1 (by simpa using hi)
          · exact hN b (by omega)
        · show zcome D q.1.1 q.1.2.1 q.1.2.2.1 q.1.2.2.2 0 5 = 0
          rw [zcome_ne (by omega) (by omega)]
          exact h5
theorem zpQuar_inr {B : Nat → Nat} {n p : Nat} {D : zC} {N : Nat → List Nat} {r : zC × Nat} (hB : zBW B n) (hp : p ≤ n) (hw : zW D) (h : zpQuar B D N p = .inr r) : p < r.2 ∧ r.2 ≤ n ∧ zW r.1 ∧ r.1 0 0 = D 0 0 ∧ r.1 0 5 = D 0 5 := by
  have hs := tkE_spec hB hp
  unfold zpQuar at h
  split at h
  · cases h
  · next hq =>
    obtain ⟨a, h1, h⟩ := zbd_inr h
    obtain ⟨b, h2, h⟩ := zbd_inr h
    split at h
    · cases h
    · next hne =>
      obtain ⟨p1, h3, h⟩ := zbd_inr h
      obtain ⟨g, h4, h⟩ := zbd_inr h
      cases h
      have g1 := zpB_inr hB hs.2.2.1 h1
      have g2 := zpB_inr hB g1.2.1 h2
      have g3 := zpK_inr hB g2.2.1 (by decide) h3
      have g4 := zpN_inr hB g3.2 h4
      have hql := hw.2.1
      exact ⟨by show p < g.2; omega, g4.2.1, zboot_W hw (by omega) g1.2.2 g2.2.2 hne g4.2.2.2, zboot_ne (C := D) (a := a.1) (b := b.1) (g := g.1) (f := 0) (i := 0) (by omega) (by omega), zboot_ne (C := D) (a := a.1) (b := b.1) (g := g.1) (f := 0) (i := 5) (by omega) (by omega)⟩
theorem zpPart0_inr {B : Nat → Nat} {n p : Nat} {s : zS} {r : zS × Nat} (hB : zBW B n) (hp : p ≤ n) (hs : zSW s) (h : zpPart0 B s p = .inr r) : p < r.2 ∧ r.2 ≤ n ∧ zSW r.1 := by
  have ht := tkE_spec hB hp
  obtain ⟨hw, hN, hf, h5⟩ := hs
  unfold zpPart0 at h
  split at h
  · next hy =>
    split at h
    · cases h
    · next hff =>
      obtain ⟨q, hq, h⟩ := zbd_inr h
      cases h
      have g := zpField_inr hB ht.2.2.1 hq
      have h0 : s.1 0 0 = 0 := by
        rcases Nat.eq_zero_or_pos (s.1 0 0) with h1 | h1
        · exact h1
        · exact absurd (hf h1) hff
      have e0 : zu (zu s.1 0 2 q.1.1) 0 3 q.1.2 0 0 = 0 := by rw [zu_ne (by omega), zu_ne (by omega)]; exact h0
      refine ⟨by show p < q.2; omega, g.2.1, zuf_W hw h0 g.2.2.1 g.2.2.2.1 g.2.2.2.2.1 g.2.2.2.2.2, fun b hb => ?_, fun _ => rfl, ?_⟩
      · have hb : b < zu (zu s.1 0 2 q.1.1) 0 3 q.1.2 0 0 := hb
        rw [e0] at hb
        exact absurd hb (Nat.not_lt_zero _)
      · show zu (zu s.1 0 2 q.1.1) 0 3 q.1.2 0 5 = 0
        rw [zu_ne (by omega), zu_ne (by omega)]; exact h5
  · split at h
    · split at h
      · cases h
      · obtain ⟨q, hq, h⟩ := zbd_inr h
        cases h
        have g := zpN_inr hB ht.2.2.1 hq
        have e0 : zu s.1 0 4 q.1 0 0 = s.1 0 0 := zu_ne (by omega)
        refine ⟨by show p < q.2; omega, g.2.1, zuo_W hw g.2.2.2, fun b hb => ?_, fun hb => ?_, ?_⟩
        · have hb : b < zu s.1 0 4 q.1 0 0 := hb
          rw [e0] at hb
          exact hN b hb
        · have hb : 0 < zu s.1 0 4 q.1 0 0 := hb
          rw [e0] at hb
          exact hf hb
        · show zu s.1 0 4 q.1 0 5 = 0
          rw [zu_ne (by omega)]; exact h5
    · split at h
      · obtain ⟨q, hq, h⟩ := zbd_inr h
        cases h
        have g := zpBoy_inr hB hp hw hN h5 hq
        exact ⟨g.1, g.2.1, g.2.2.1, g.2.2.2.1, fun _ => rfl, g.2.2.2.2⟩
      · split at h
        · obtain ⟨q, hq, h⟩ := zbd_inr h
          cases h
          have g := zpQuar_inr hB hp hw hq
          refine ⟨g.1, g.2.1, g.2.2.1, fun b hb => ?_, fun hb => ?_, ?_⟩
          · have hb : b < q.1 0 0 := hb
            rw [g.2.2.2.1] at hb
            exact hN b hb
          · have hb : 0 < q.1 0 0 := hb
            rw [g.2.2.2.1] at hb
            exact hf hb
          · show q.1 0 5 = 0
            rw [g.2.2.2.2]; exact h5
        · cases h
theorem zpPart_inr {B : Nat → Nat} {n p : Nat} {s : zS} {r : zS × Nat} (hB : zBW B n) (hp : p ≤ n) (hs : zSW s) (h : zpPart B s p = .inr r) : p < r.2 ∧ r.2 ≤ n ∧ zSW r.1 := by
  unfold zpPart at h
  obtain ⟨q, hq, h⟩ := zbd_inr h
  obtain ⟨e, he, h⟩ := zbd_inr h
  cases h
  have g := zpPart0_inr hB hp hs hq
  have g2 := zpS_inr hB g.2.1 he
  exact ⟨by show p < e; omega, g2.2, g.2.2⟩
theorem zSW_0 : zSW (zC0, fun _ => [], false, false) := ⟨zC0_W, fun b hb => absurd hb (Nat.not_lt_zero _), fun h => absurd h (Nat.not_lt_zero _), rfl⟩
theorem zpCamp_W {B : Nat → Nat} {n : Nat} (hB : zBW B n) : ∀ f s p r, p ≤ n → zSW s → zpCamp B f s p = .inr r → zSW r
  | 0, s, p, r, _, hs, h => by
    cases h
    exact hs
  | f + 1, s, p, r, hp, hs, h => by
    rw [zpCamp] at h
    split at h
    · cases h
      exact hs
    · obtain ⟨q, hq, h⟩ := zbd_inr h
      have g := zpPart_inr hB hp hs hq
      exact zpCamp_W hB f q.1 q.2 r g.2.1 g.2.2 h
