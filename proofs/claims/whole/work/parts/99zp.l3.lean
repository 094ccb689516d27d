/-! the law: both pictures at the start -/
def zK0 : zK := (zC0, fun _ => [], none)
def zA0 : zA := (zK0, (0, fun _ => zK0), (fun _ => 0, fun _ => none, fun _ _ => 0), (0, fun _ => 0), (0, 1), 0, (iI (-1), iI (-1)), (false, fun _ => 0), fun _ => 0)
theorem zAW0 : zAW zA0 := by
  have k : zKW zK0 := ⟨zC0_W, by decide, fun b hb => absurd hb (Nat.not_lt_zero _), fun w hw => by cases hw⟩
  exact ⟨k, Nat.zero_le _, fun i i1 i2 => absurd i2 (by show ¬ i ≤ 0; omega), fun t ht => ⟨Nat.zero_le _, fun n hn => by cases hn⟩, ⟨Nat.zero_le _, fun j => (show (0 : Nat) < 256 by decide)⟩, fun j => Nat.zero_le _⟩
theorem zXA0 {f6 f g : Nat → Int32} (h6 : ∀ j, j < 4 → f6 j = iI (-1)) : zXA (kS f6 f g) zA0 := by
  refine ⟨⟨⟨⟨⟨rfl, rfl, rfl, rfl, rfl, rfl⟩, fun b hb => absurd hb (Nat.not_lt_zero _), fun q hq => absurd hq (Nat.not_lt_zero _)⟩, fun b hb => absurd hb (Nat.not_lt_zero _)⟩, fun b hb => absurd hb (Nat.not_lt_zero _), ⟨rfl, 0, rfl, rfl, fun k hk => absurd hk (Nat.not_lt_zero _)⟩⟩, ⟨rfl, fun i i1 i2 => absurd i2 (by show ¬ i ≤ 0; omega)⟩, fun t ht => ⟨fun _ => h6 t ht, fun n hn => by cases hn⟩, ⟨rfl, fun j hj => absurd hj (Nat.not_lt_zero _)⟩, fun i hi => kld_w i hi, ⟨rfl, rfl⟩, rfl, ⟨rfl, rfl⟩, ⟨rfl, fun hd => by cases hd⟩, fun j hj => rfl⟩
theorem zMA0 {f6 f g : Nat → Int32} (hf : kpl f) (hg : ∀ j, j < 4 → g j = iI (-1)) : zMA (kS f6 f g) zA0 := by
  refine ⟨⟨⟨fun j hj => ?_, fun b hb => absurd hb (Nat.not_lt_zero _), fun q hq => absurd hq (Nat.not_lt_zero _)⟩, fun b hb => absurd hb (Nat.not_lt_zero _), ?_⟩, rfl, fun i i1 i2 => absurd i2 (by show ¬ i ≤ 0; omega), fun t ht => ⟨rfl, hg t ht, fun n j hn => by cases hn⟩, ⟨rfl, fun j hj => absurd hj (Nat.not_lt_zero _)⟩, ⟨rfl, rfl⟩, rfl, ⟨rfl, rfl⟩, ⟨rfl, fun hd => by cases hd⟩, fun j hj => rfl⟩
  · show f (456 * 0 + j) = nI (zC0 0 j)
    rw [hf, show 456 * 0 + j = j by omega]
    rcases (show j = 0 ∨ j = 1 ∨ j = 2 ∨ j = 3 ∨ j = 4 ∨ j = 5 by omega) with rfl | rfl | rfl | rfl | rfl | rfl <;> rfl
  · show f (456 * 0 + 6) = iI (-1)
    rw [hf]
    rfl
