/-! a life, by its lines: what both sides are held against -/
/-- camp, rounds, and: 0 missed, 1 minutes, 2 over, 3 fresh, 4 left, 5 steps, 6 the draw, 7 the line, 8 if it stands -/
abbrev zL : Type := zC × (Nat → Nat) × (Nat → Nat)
def zn (L : Nat → Nat) (o v : Nat) (j : Nat) : Nat := if j = o then v else L j
theorem zn_eq {L : Nat → Nat} {o v : Nat} : zn L o v o = v := if_pos rfl
theorem zn_ne {L : Nat → Nat} {o v j : Nat} (h : ¬ j = o) : zn L o v j = L j := if_neg h
def zsC (s : zL) (C : zC) : zL := (C, s.2)
def zsR (s : zL) (i v : Nat) : zL := (s.1, s.2.1, zn s.2.2 i v)
def zsL (s : zL) (o v : Nat) : zL := (s.1, zn s.2.1 o v, s.2.2)
theorem zsR_e {s : zL} {i v : Nat} : (zsR s i v).2.2 i = v := if_pos rfl
theorem zsR_n {s : zL} {i v j : Nat} (h : ¬ j = i) : (zsR s i v).2.2 j = s.2.2 j := if_neg h
theorem zsR_L {s : zL} {i v : Nat} : (zsR s i v).2.1 = s.2.1 := rfl
theorem zsR_C {s : zL} {i v : Nat} : (zsR s i v).1 = s.1 := rfl
theorem zsL_L {s : zL} {i v : Nat} : (zsL s i v).2.1 = zn s.2.1 i v := rfl
theorem zsL_R {s : zL} {i v : Nat} : (zsL s i v).2.2 = s.2.2 := rfl
def zdr (d : Nat) : Nat := (d * 3187 + 11411) % 65536
def zfall (s : zL) (a b g : Nat) : Bool × zL := if a ≠ b ∧ s.1 0 1 < 10 then (true, zsR (zsC s (zboot s.1 a b g)) 3 (s.2.2 3 + 1)) else (false, s)
def zany (s : zL) : Bool × zL :=
  if s.1 0 0 = 0 then (false, s)
  else zfall (zsR s 6 (zdr (zdr (zdr (s.2.2 6))))) (zdr (s.2.2 6) / 8 % s.1 0 0) (zdr (zdr (s.2.2 6)) / 8 % s.1 0 0) (zdr (zdr (zdr (s.2.2 6))) / 8 % 20)
/-- what a line does to the camp, and if it could -/
def zdo (W : Nat → Nat → Nat) (k : Nat) (s : zL) : Bool × zL :=
  if W k 0 = 10 then (if s.1 0 5 + W k 1 ≤ 9999 then (true, zsR (zsR (zsC s (zit (W k 1) s.1)) 2 (s.2.2 2 + (zmins (W k 1) s.1).2)) 1 (s.2.2 1 + W k 1)) else (false, s))
  else if W k 0 = 11 then (decide (0 < s.1 0 5 ∨ zpop (zopens s.1) < s.1 0 1), zsC s (zdawn s.1).1)
  else if W k 0 = 3 then zfall s (W k 1) (W k 2) (W k 3)
  else if W k 0 = 12 then (decide (0 < zpop (zof s.1 (W k 1))), zsC s (zgive s.1 (W k 1)))
  else if W k 0 = 13 then (decide (s.1 1 (W k 1) ≠ W k 2), zsC s (zu s.1 1 (W k 1) (W k 2)))
  else if W k 0 = 14 then zany s
  else (true, s)
def zhv (W : Nat → Nat → Nat) (k : Nat) (C : zC) : Nat := if W k 0 = 1520 then zpop (zopens C) else C 0 5
def zholds (W : Nat → Nat → Nat) (k : Nat) (C : zC) : Bool :=
  if W k 0 = 1519 then zUp C (W k 1)
  else if W k 5 = 60 then decide (zhv W k C < W k 2)
  else if W k 5 = 62 then decide (W k 2 < zhv W k C)
  else decide (zhv W k C = W k 2)
/-- an end's move -/
def zendm (W : Nat → Nat → Nat) (s : zL) : zL :=
  if W (W (s.2.2 7) 4) 0 = 16 then zsR (zsL s (W (s.2.2 7) 4) (s.2.1 (W (s.2.2 7) 4) - 1)) 7 (if 2 ≤ s.2.1 (W (s.2.2 7) 4) then W (s.2.2 7) 4 + 1 else s.2.2 7 + 1)
  else zsR s 7 (s.2.2 7 + 1)
def zbeh (W : Nat → Nat → Nat) (k : Nat) (r : Bool × zL) : zL :=
  zsR (zsR (if W k 0 = 16 then zsL r.2 k (W k 1) else r.2) 0 (r.2.2.2 0 + (if r.1 then 0 else 1))) 7 (if 1500 ≤ W k 0 ∧ zholds W k r.2.1 = false then W k 4 + 1 else k + 1)
/-- one move -/
def zmove1 (W : Nat → Nat → Nat) (n : Nat) (s : zL) : zL :=
  if n ≤ s.2.2 7 then zsR s 8 1
  else if W (s.2.2 7) 0 = 17 then zendm W s
  else if s.2.2 5 = 300 then zsR (zsR s 4 1) 8 1
  else if W (s.2.2 7) 0 = 18 then zsR (zsR s 5 (s.2.2 5 + 1)) 8 1
  else zbeh W (s.2.2 7) (zdo W (s.2.2 7) (zsR s 5 (s.2.2 5 + 1)))
def zgo (W : Nat → Nat → Nat) (n : Nat) : Nat → zL → zL
  | 0, s => s
  | f + 1, s => if s.2.2 8 = 1 then s else zgo W n f (zmove1 W n s)
/-- what a move can cost -/
def zpsi (W : Nat → Nat → Nat) (n : Nat) (s : zL) : Nat := if s.2.2 7 < n ∧ W (s.2.2 7) 0 = 17 then (60 - s.2.2 7) + (if W (s.2.2 7) 4 + 1 = s.2.2 7 then s.2.1 (W (s.2.2 7) 4) else 0) else 0
def zphi (W : Nat → Nat → Nat) (n : Nat) (s : zL) : Nat := if s.2.2 8 = 1 then 0 else (300 - s.2.2 5) * 161 + zpsi W n s + 1
/-- the lines of well-made weeks -/
def zWo (W : Nat → Nat → Nat) (k : Nat) : Prop := W k 0 = 16 ∨ 1500 ≤ W k 0
def zWk (W : Nat → Nat → Nat) (n boys cells k : Nat) : Prop :=
  (W k 0 = 3 ∨ (10 ≤ W k 0 ∧ W k 0 ≤ 14) ∨ (16 ≤ W k 0 ∧ W k 0 ≤ 18) ∨ (1519 ≤ W k 0 ∧ W k 0 ≤ 1521)) ∧
    (W k 0 = 10 → 1 ≤ W k 1 ∧ W k 1 ≤ 60) ∧ (W k 0 = 3 → W k 1 < boys ∧ W k 2 < boys ∧ W k 3 ≤ 99) ∧ (W k 0 = 12 → W k 1 < boys) ∧ (W k 0 = 13 → W k 1 < boys ∧ W k 2 < cells) ∧
    (W k 0 = 16 → 1 ≤ W k 1 ∧ W k 1 ≤ 99) ∧ (W k 0 = 1519 → W k 1 < boys) ∧ (1520 ≤ W k 0 → W k 2 ≤ 9999 ∧ (W k 5 = 60 ∨ W k 5 = 61 ∨ W k 5 = 62)) ∧
    (zWo W k → k < W k 4 ∧ W k 4 < n ∧ W (W k 4) 0 = 17 ∧ W (W k 4) 4 = k) ∧
    (W k 0 = 17 → W k 4 < k ∧ W (W k 4) 4 = k ∧ zWo W (W k 4))
def zWW (W : Nat → Nat → Nat) (n boys cells : Nat) : Prop :=
  n ≤ 60 ∧ (∀ k, k < n → zWk W n boys cells k) ∧ (∀ o o', o < o' → o' < W o 4 → o' < n → zWo W o → zWo W o' → W o' 4 < W o 4)
/-- what holds in a life -/
def zLW (W : Nat → Nat → Nat) (n : Nat) (s : zL) : Prop :=
  zW s.1 ∧ zWW W n (s.1 0 0) (s.1 0 2 * s.1 0 3) ∧ s.1 0 5 ≤ 9999 ∧ s.2.2 6 < 65536 ∧ s.2.2 5 ≤ 300 ∧ s.2.2 0 ≤ s.2.2 5 ∧ s.2.2 1 ≤ 60 * s.2.2 5 ∧ s.2.2 2 ≤ 600 * s.2.2 5 ∧ s.2.2 3 ≤ s.2.2 5 ∧ s.2.2 4 ≤ 1 ∧
  (∀ j, s.2.1 j ≤ 99) ∧ s.2.2 7 ≤ n ∧ (∀ o, o < n → W o 0 = 16 → o < s.2.2 7 → s.2.2 7 ≤ W o 4 → 1 ≤ s.2.1 o)
theorem zgo_h (W : Nat → Nat → Nat) (n : Nat) : ∀ f s, s.2.2 8 = 1 → zgo W n f s = s
  | 0, _, _ => rfl
  | f + 1, s, h => by simp [zgo, h]
theorem zfall_L (s : zL) (a b g : Nat) : (zfall s a b g).2.2.1 = s.2.1 := by
  unfold zfall
  split <;> rfl
theorem zfall_r (s : zL) (a b g i : Nat) (hi : i ≠ 3) : (zfall s a b g).2.2.2 i = s.2.2 i := by
  unfold zfall
  split
  · exact zn_ne hi
  · rfl
theorem zdo_L (W : Nat → Nat → Nat) (k : Nat) (s : zL) : (zdo W k s).2.2.1 = s.2.1 := by
  unfold zdo
  split
  · split <;> rfl
  · split
    · rfl
    · split
      · exact zfall_L _ _ _ _
      · split
        · rfl
        · split
          · rfl
          · split
            · unfold zany
              split
              · rfl
              · rw [zfall_L]; rfl
            · rfl
theorem zdo_r (W : Nat → Nat → Nat) (k : Nat) (s : zL) {i : Nat} (h1 : i ≠ 1) (h2 : i ≠ 2) (h3 : i ≠ 3) (h6 : i ≠ 6) : (zdo W k s).2.2.2 i = s.2.2 i := by
  unfold zdo
  split
  · split
    · show zn (zn s.2.2 2 _) 1 _ i = _
      rw [zn_ne h1, zn_ne h2]
    · rfl
  · split
    · rfl
    · split
      · exact zfall_r _ _ _ _ _ h3
      · split
        · rfl
        · split
          · rfl
          · split
            · unfold zany
              split
              · rfl
              · rw [zfall_r _ _ _ _ _ h3]
                exact zn_ne h6
            · rfl
theorem zbeh_r (W : Nat → Nat → Nat) (k : Nat) (r : Bool × zL) {i : Nat} (h0 : i ≠ 0) (h7 : i ≠ 7) : (zbeh W k r).2.2 i = r.2.2.2 i := by
  show zn (zn (if W k 0 = 16 then zsL r.2 k (W k 1) else r.2).2.2 0 _) 7 _ i = _
  rw [zn_ne h7, zn_ne h0]
  split <;> rfl
theorem zbeh_L (W : Nat → Nat → Nat) (k : Nat) (r : Bool × zL) : (zbeh W k r).2.1 = if W k 0 = 16 then zn r.2.2.1 k (W k 1) else r.2.2.1 := by
  show (if W k 0 = 16 then zsL r.2 k (W k 1) else r.2).2.1 = _
  split <;> rfl
theorem zbeh_C (W : Nat → Nat → Nat) (k : Nat) (r : Bool × zL) : (zbeh W k r).1 = r.2.1 := by
  show (if W k 0 = 16 then zsL r.2 k (W k 1) else r.2).1 = _
  split <;> rfl
theorem zpsi_le {W : Nat → Nat → Nat} {n : Nat} {s : zL} (hL : ∀ j, s.2.1 j ≤ 99) : zpsi W n s ≤ 159 := by
  unfold zpsi
  have := hL (W (s.2.2 7) 4)
  split
  · split <;> omega
  · omega
theorem zphi_0 {W : Nat → Nat → Nat} {n : Nat} {s : zL} (h : s.2.2 8 = 1) : zphi W n s = 0 := if_pos h
theorem zpsi_x {W : Nat → Nat → Nat} {n b c k : Nat} (hW : zWW W n b c) {s : zL} (hk : k < n) (h : W k 0 = 17) (e : s.2.2 7 = k + 1) : zpsi W n s ≤ 59 - k := by
  unfold zpsi
  rw [e]
  split
  · next h1 =>
    obtain ⟨-, -, -, -, -, -, -, -, -, kc⟩ := hW.2.1 (k + 1) h1.1
    obtain ⟨-, -, h2⟩ := kc h1.2
    rw [if_neg]
    · omega
    · intro h3
      have h4 : W (k + 1) 4 = k := by omega
      rw [h4] at h2
      unfold zWo at h2
      omega
  · omega
theorem zpsi_a {W : Nat → Nat → Nat} {n b c k o : Nat} (hW : zWW W n b c) {s : zL} (hk : k < n) (h : W k 0 = 17) (ho : W k 4 = o) (e : s.2.2 7 = o + 1) : zpsi W n s ≤ (if o + 1 = k then (60 - k) + s.2.1 o else 0) := by
  unfold zpsi
  rw [e]
  obtain ⟨-, -, -, -, -, -, -, -, -, kc⟩ := hW.2.1 k hk
  obtain ⟨k1, k2, k3⟩ := kc h
  rw [ho] at k1 k2 k3
  split
  · next h1 =>
    by_cases e2 : o + 1 = k
    · rw [if_pos e2, e2, ho, if_pos e2]
      exact Nat.le_refl _
    · exfalso
      obtain ⟨-, -, -, -, -, -, -, -, -, kd⟩ := hW.2.1 (o + 1) h1.1
      obtain ⟨j1, j2, j3⟩ := kd h1.2
      by_cases e3 : W (o + 1) 4 = o
      · rw [e3] at j2
        omega
      · have := hW.2.2 (W (o + 1) 4) o (by omega) (by omega) (by omega) j3 k3
        omega
  · exact Nat.zero_le _
/-- no move makes it dearer -/
theorem zphi_lt {W : Nat → Nat → Nat} {n : Nat} {s : zL} (hs : zLW W n s) (h : s.2.2 8 ≠ 1) : zphi W n (zmove1 W n s) < zphi W n s := by
  obtain ⟨hw, hW, -, -, h5, -, -, -, -, -, hL, h7, -⟩ := hs
  have hn := hW.1
  have hk := hW.2.1
  have e0 : zphi W n s = (300 - s.2.2 5) * 161 + zpsi W n s + 1 := if_neg h
  rw [e0]
  unfold zmove1
  split
  · have : zphi W n (zsR s 8 1) = 0 := zphi_0 zsR_e
    omega
  · have kb := hk (s.2.2 7) (by omega)
    split
    · next h1 h2 =>
      obtain ⟨-, -, -, -, -, -, -, -, -, kc⟩ := kb
      obtain ⟨k1, k2, k3⟩ := kc h2
      have e1 : zpsi W n s = (60 - s.2.2 7) + (if W (s.2.2 7) 4 + 1 = s.2.2 7 then s.2.1 (W (s.2.2 7) 4) else 0) := if_pos ⟨by omega, h2⟩
      have hx : ∀ s', s'.2.2 8 = s.2.2 8 → s'.2.2 5 = s.2.2 5 → zpsi W n s' < zpsi W n s → zphi W n s' < (300 - s.2.2 5) * 161 + zpsi W n s + 1 := by
        intro s' h8 h5' h
        rw [zphi, if_neg (by rw [h8]; assumption), h5']
        omega
      have hq : 60 - s.2.2 7 ≤ zpsi W n s := by omega
      unfold zendm
      split
      · next h3 =>
        refine hx _ ((zsR_n (by decide)).trans (congrFun zsL_R 8)) ((zsR_n (by decide)).trans (congrFun zsL_R 5)) ?_
        split
        · next h4 =>
          have := zpsi_a hW (s := zsR (zsL s (W (s.2.2 7) 4) (s.2.1 (W (s.2.2 7) 4) - 1)) 7 (W (s.2.2 7) 4 + 1)) (by omega) h2 rfl zsR_e
          rw [zsR_L, zsL_L, zn_eq] at this
          split at this
          · next h5 =>
            rw [if_pos h5] at e1
            omega
          · omega
        · have := zpsi_x hW (s := zsR (zsL s (W (s.2.2 7) 4) (s.2.1 (W (s.2.2 7) 4) - 1)) 7 (s.2.2 7 + 1)) (by omega) h2 zsR_e
          omega
      · refine hx _ (zsR_n (by decide)) (zsR_n (by decide)) ?_
        have := zpsi_x hW (s := zsR s 7 (s.2.2 7 + 1)) (by omega) h2 zsR_e
        omega
    · next h1 h2 =>
      have e1 : zpsi W n s = 0 := if_neg (fun h => h2 h.2)
      split
      · have : zphi W n (zsR (zsR s 4 1) 8 1) = 0 := zphi_0 zsR_e
        omega
      · split
        · have : zphi W n (zsR (zsR s 5 (s.2.2 5 + 1)) 8 1) = 0 := zphi_0 zsR_e
          omega
        · next h3 h4 =>
          have r8 : (zbeh W (s.2.2 7) (zdo W (s.2.2 7) (zsR s 5 (s.2.2 5 + 1)))).2.2 8 = s.2.2 8 := by
            rw [zbeh_r _ _ _ (by decide) (by decide), zdo_r _ _ _ (by decide) (by decide) (by decide) (by decide)]
            exact zsR_n (by decide)
          have r5 : (zbeh W (s.2.2 7) (zdo W (s.2.2 7) (zsR s 5 (s.2.2 5 + 1)))).2.2 5 = s.2.2 5 + 1 := by
            rw [zbeh_r _ _ _ (by decide) (by decide), zdo_r _ _ _ (by decide) (by decide) (by decide) (by decide)]
            exact zsR_e
          have rL : ∀ j, (zbeh W (s.2.2 7) (zdo W (s.2.2 7) (zsR s 5 (s.2.2 5 + 1)))).2.1 j ≤ 99 := by
            intro j
            rw [zbeh_L, zdo_L]
            split
            · next h6 =>
              have := (kb.2.2.2.2.2.1 h6).2
              have h9 := hL j
              simp only [zn]
              split
              · exact this
              · exact h9
            · exact hL j
          have := zpsi_le (W := W) (n := n) rL
          rw [zphi, if_neg (by rw [r8]; exact h), r5]
          omega
/-- moves beyond the last do nothing; zfin is the end -/
def zfin (W : Nat → Nat → Nat) (n : Nat) (s : zL) : zL := zgo W n (zphi W n s) s
