/-! what holds in a life goes on holding -/
theorem zms_le (up : Nat) (S : zC × Nat × Nat) (q : Nat) : (zms up S q).2.1 ≤ S.2.1 + 1 := by
  unfold zms
  split
  · exact Nat.le_refl _
  · exact Nat.le_succ _
theorem zmf_le (up : Nat) (C : zC) : ∀ q, (zmf up C q).2.1 ≤ q
  | 0 => Nat.le_refl _
  | q + 1 => by
    have h1 := zmf_le up C q
    have h2 := zms_le up (zmf up C q) q
    show (zms up (zmf up C q) q).2.1 ≤ q + 1
    omega
theorem zmins_le (C : zC) : ∀ n, (zmins n C).2 ≤ C 0 1 * n
  | 0 => Nat.zero_le _
  | n + 1 => by
    have h1 := zmins_le C n
    have h2 : (zmin (zmins n C).1).2.1 ≤ C 0 1 := by
      have := zmf_le (zups (zit n C)) (zit n C) (zit n C 0 1)
      rw [zit_q _ _ _ (by decide) (by decide) (by decide)] at this
      show (zmf (zups (zit n C)) (zit n C) (zit n C 0 1)).2.1 ≤ _
      rw [zit_q _ _ _ (by decide) (by decide) (by decide)]
      exact this
    rw [Nat.mul_succ]
    exact Nat.add_le_add h1 h2
def zdg (s : zL) (r : Bool × zL) : Prop := zW r.2.1 ∧ (∀ i, i ≠ 1 → i ≠ 5 → r.2.1 0 i = s.1 0 i) ∧ r.2.1 0 5 ≤ 9999 ∧ r.2.2.2 6 < 65536 ∧ r.2.2.2 1 ≤ s.2.2 1 + 60 ∧ r.2.2.2 2 ≤ s.2.2 2 + 600 ∧ r.2.2.2 3 ≤ s.2.2 3 + 1
theorem zdg_C {s : zL} {e : Bool} {C : zC} (hw : zW C) (h0 : ∀ i, i ≠ 1 → i ≠ 5 → C 0 i = s.1 0 i) (h5 : C 0 5 ≤ 9999) (h6 : s.2.2 6 < 65536) : zdg s (e, zsC s C) :=
  ⟨hw, h0, h5, h6, Nat.le_add_right _ _, Nat.le_add_right _ _, Nat.le_add_right _ _⟩
theorem zfall_g {s : zL} {a b g : Nat} (hw : zW s.1) (h5 : s.1 0 5 ≤ 9999) (h6 : s.2.2 6 < 65536) (ha : a < s.1 0 0) (hb : b < s.1 0 0) (hg : g ≤ 99) : zdg s (zfall s a b g) := by
  unfold zfall
  split
  · next h =>
    refine ⟨zboot_W hw h.2 ha hb h.1 hg, fun i h1 h5 => zboot_ne (by omega) (by omega), ?_, h6, Nat.le_add_right _ _, Nat.le_add_right _ _, ?_⟩
    · show zboot s.1 a b g 0 5 ≤ 9999
      rw [zboot_ne (by omega) (by omega)]
      exact h5
    · rw [zsR_e]
      exact Nat.le_refl _
  · exact ⟨hw, fun _ _ _ => rfl, h5, h6, Nat.le_add_right _ _, Nat.le_add_right _ _, Nat.le_add_right _ _⟩
theorem zdr_lt (d : Nat) : zdr d < 65536 := Nat.mod_lt _ (by decide)
theorem zdo_g {W : Nat → Nat → Nat} {n : Nat} {s : zL} {k : Nat} (hw : zW s.1) (hk : zWk W n (s.1 0 0) (s.1 0 2 * s.1 0 3) k) (h5 : s.1 0 5 ≤ 9999) (h6 : s.2.2 6 < 65536) : zdg s (zdo W k s) := by
  obtain ⟨-, k10, k3, k12, k13, -, -, -, -, -⟩ := hk
  have same : ∀ e, zdg s (e, s) := fun e => ⟨hw, fun _ _ _ => rfl, h5, h6, Nat.le_add_right _ _, Nat.le_add_right _ _, Nat.le_add_right _ _⟩
  unfold zdo
  split
  · next h =>
    split
    · next h2 =>
      have hm := zmins_le s.1 (W k 1)
      have hq : s.1 0 1 * W k 1 ≤ 10 * 60 := Nat.mul_le_mul hw.2.1 (k10 h).2
      refine ⟨zit_W hw _ (by omega), fun i h1 h5 => zit_q _ _ _ (by decide) (by decide) (by intro h; injection h; omega) _, ?_, h6, ?_, ?_, Nat.le_add_right _ _⟩
      · show zit (W k 1) s.1 0 5 ≤ 9999
        rw [zit_clock]
        exact h2
      · rw [zsR_e]
        have := k10 h
        omega
      · rw [zsR_n (by decide), zsR_e]
        omega
    · exact same _
  · split
    · refine zdg_C (zdawn_W hw) (fun i h1 h5 => ?_) ?_ h6
      · show zu (zu _ 0 1 _) 0 5 0 0 i = _
        rw [zu_ne (by omega), zu_ne (by omega), zdf_lo _ _ _ (by decide)]
      · have e5 : (zdawn s.1).1 0 5 = 0 := by
          show zu (zu (zdf s.1 (s.1 0 1)).1 0 1 (zdf s.1 (s.1 0 1)).2) 0 5 0 0 5 = 0
          exact zu_eq
        rw [e5]
        decide
    · split
      · next h =>
        obtain ⟨a1, a2, a3⟩ := k3 h
        exact zfall_g hw h5 h6 a1 a2 a3
      · split
        · refine zdg_C (zgive_W hw _) (fun i h1 h5 => zgive_q _ _ _ _ (by decide) (by decide)) ?_ h6
          rw [zgive_q _ _ _ _ (by decide) (by decide)]
          exact h5
        · split
          · next h =>
            refine zdg_C (zu1_W hw (k13 h).2) (fun i h1 h5 => zu_ne (by omega)) ?_ h6
            rw [zu_ne (by omega)]
            exact h5
          · split
            · unfold zany
              split
              · exact same _
              · next h0 =>
                have hp : 0 < s.1 0 0 := by omega
                exact zfall_g (s := zsR s 6 _) hw h5 (by rw [zsR_e]; exact zdr_lt _) (Nat.mod_lt _ hp) (Nat.mod_lt _ hp) (by have := Nat.mod_lt (zdr (zdr (zdr (s.2.2 6))) / 8) (show 0 < 20 by decide); omega)
            · exact same _
theorem zLn {W : Nat → Nat → Nat} {n : Nat} {s : zL} (hs : zLW W n s) {i v : Nat} (h : i = 8) : zLW W n (zsR s i v) := by
  subst h
  obtain ⟨hw, hW, h5, hd, hst, hms, hmi, hov, hfr, hlt, hL, h7, hn⟩ := hs
  refine ⟨hw, hW, h5, ?_⟩
  simp only [zsR, zn, Nat.reduceEqDiff, if_false]
  exact ⟨hd, hst, hms, hmi, hov, hfr, hlt, hL, h7, hn⟩
theorem zL4 {W : Nat → Nat → Nat} {n : Nat} {s : zL} (hs : zLW W n s) : zLW W n (zsR s 4 1) := by
  obtain ⟨hw, hW, h5, hd, hst, hms, hmi, hov, hfr, hlt, hL, h7, hn⟩ := hs
  refine ⟨hw, hW, h5, ?_⟩
  simp only [zsR, zn, Nat.reduceEqDiff, if_false, if_true]
  exact ⟨hd, hst, hms, hmi, hov, hfr, by omega, hL, h7, hn⟩
theorem zL5 {W : Nat → Nat → Nat} {n : Nat} {s : zL} (hs : zLW W n s) (h : s.2.2 5 < 300) : zLW W n (zsR s 5 (s.2.2 5 + 1)) := by
  obtain ⟨hw, hW, h5, hd, hst, hms, hmi, hov, hfr, hlt, hL, h7, hn⟩ := hs
  refine ⟨hw, hW, h5, ?_⟩
  simp only [zsR, zn, Nat.reduceEqDiff, if_false, if_true]
  exact ⟨hd, by omega, by omega, by omega, by omega, by omega, hlt, hL, h7, hn⟩
/-- a line and rounds that keep what holds -/
def zlk (W : Nat → Nat → Nat) (n : Nat) (L : Nat → Nat) (k : Nat) : Prop := (∀ j, L j ≤ 99) ∧ k ≤ n ∧ (∀ o, o < n → W o 0 = 16 → o < k → k ≤ W o 4 → 1 ≤ L o)
theorem zlk_end {W : Nat → Nat → Nat} {n b c k : Nat} {L : Nat → Nat} (hW : zWW W n b c) (h : zlk W n L k) (hk : k < n) (h17 : W k 0 = 17) :
    zlk W n (if W (W k 4) 0 = 16 then zn L (W k 4) (L (W k 4) - 1) else L) (if W (W k 4) 0 = 16 ∧ 2 ≤ L (W k 4) then W k 4 + 1 else k + 1) := by
  obtain ⟨h1, h2, h3⟩ := h
  obtain ⟨-, -, -, -, -, -, -, -, -, kc⟩ := hW.2.1 k hk
  obtain ⟨k1, k2, k3⟩ := kc h17
  refine ⟨fun j => ?_, ?_, fun o ho h16 ho1 ho2 => ?_⟩
  · have a := h1 j
    have b := h1 (W k 4)
    split
    · simp only [zn]
      split <;> omega
    · exact a
  · split <;> omega
  · by_cases e : o = W k 4
    · subst e
      rw [if_pos h16, zn_eq]
      by_cases h6 : 2 ≤ L (W k 4)
      · omega
      · rw [if_neg (fun h => h6 h.2)] at ho1 ho2
        omega
    · have h9 : 1 ≤ L o := by
        refine h3 o ho h16 ?_ ?_
        · by_cases h6 : W (W k 4) 0 = 16 ∧ 2 ≤ L (W k 4)
          · rw [if_pos h6] at ho1
            omega
          · rw [if_neg h6] at ho1
            by_cases e2 : o = k
            · subst e2
              omega
            · omega
        · by_cases h6 : W (W k 4) 0 = 16 ∧ 2 ≤ L (W k 4)
          · rw [if_pos h6] at ho1 ho2
            have := hW.2.2 o (W k 4) (by omega) (by omega) (by omega) (Or.inl h16) k3
            omega
          · rw [if_neg h6] at ho2
            omega
      split
      · rw [zn_ne e]
        exact h9
      · exact h9
theorem zlk_step {W : Nat → Nat → Nat} {n b c k : Nat} {L : Nat → Nat} (hW : zWW W n b c) (h : zlk W n L k) (hk : k < n) (h17 : W k 0 ≠ 17) (e : Bool) :
    zlk W n (if W k 0 = 16 then zn L k (W k 1) else L) (if 1500 ≤ W k 0 ∧ e = false then W k 4 + 1 else k + 1) := by
  obtain ⟨h1, h2, h3⟩ := h
  obtain ⟨ka, -, -, -, -, kl, -, -, kb, -⟩ := hW.2.1 k hk
  refine ⟨fun j => ?_, ?_, fun o ho h16 ho1 ho2 => ?_⟩
  · have a := h1 j
    split
    · next h6 =>
      have := kl h6
      simp only [zn]
      split <;> omega
    · exact a
  · split
    · next h6 =>
      have := kb (Or.inr h6.1)
      omega
    · omega
  · by_cases e1 : o = k
    · subst e1
      rw [if_pos h16, zn_eq]
      exact (kl h16).1
    · have h9 : 1 ≤ L o := by
        refine h3 o ho h16 ?_ ?_
        · by_cases h6 : 1500 ≤ W k 0 ∧ e = false
          · rw [if_pos h6] at ho1 ho2
            obtain ⟨b1, b2, b3, b4⟩ := kb (Or.inr h6.1)
            by_cases e2 : o = W k 4
            · subst e2
              omega
            · have e3 : ¬ k < o := by
                intro h7
                have := hW.2.2 k o h7 (by omega) ho (Or.inr h6.1) (Or.inl h16)
                omega
              omega
          · rw [if_neg h6] at ho1
            omega
        · by_cases h6 : 1500 ≤ W k 0 ∧ e = false
          · rw [if_pos h6] at ho2
            obtain ⟨b1, b2, b3, b4⟩ := kb (Or.inr h6.1)
            omega
          · rw [if_neg h6] at ho2
            omega
      split
      · rw [zn_ne e1]
        exact h9
      · exact h9
theorem zendm_C (W : Nat → Nat → Nat) (s : zL) : (zendm W s).1 = s.1 := by
  unfold zendm
  split <;> rfl
theorem zendm_L (W : Nat → Nat → Nat) (s : zL) : (zendm W s).2.1 = if W (W (s.2.2 7) 4) 0 = 16 then zn s.2.1 (W (s.2.2 7) 4) (s.2.1 (W (s.2.2 7) 4) - 1) else s.2.1 := by
  unfold zendm
  split <;> rfl
theorem zendm_r (W : Nat → Nat → Nat) (s : zL) {i : Nat} (h : i ≠ 7) : (zendm W s).2.2 i = s.2.2 i := by
  unfold zendm
  split
  · rw [zsR_n h]; rfl
  · rw [zsR_n h]
theorem zendm_7 (W : Nat → Nat → Nat) (s : zL) : (zendm W s).2.2 7 = if W (W (s.2.2 7) 4) 0 = 16 ∧ 2 ≤ s.2.1 (W (s.2.2 7) 4) then W (s.2.2 7) 4 + 1 else s.2.2 7 + 1 := by
  unfold zendm
  split
  · next h =>
    rw [zsR_e]
    by_cases h2 : 2 ≤ s.2.1 (W (s.2.2 7) 4)
    · rw [if_pos h2, if_pos ⟨h, h2⟩]
    · rw [if_neg h2, if_neg (fun h => h2 h.2)]
  · next h => rw [zsR_e, if_neg (fun h2 => h h2.1)]
theorem zLW_move {W : Nat → Nat → Nat} {n : Nat} {s : zL} (hs : zLW W n s) : zLW W n (zmove1 W n s) := by
  unfold zmove1
  split
  · exact zLn hs rfl
  · split
    · next h1 h2 =>
      obtain ⟨hw, hW, h5, hd, hst, hms, hmi, hov, hfr, hlt, hL, h7, hn⟩ := hs
      have key := zlk_end hW ⟨hL, h7, hn⟩ (by omega) h2
      rw [← zendm_L, ← zendm_7] at key
      unfold zLW
      rw [zendm_C, zendm_r W s (i := 0) (by decide), zendm_r W s (i := 1) (by decide), zendm_r W s (i := 2) (by decide), zendm_r W s (i := 3) (by decide), zendm_r W s (i := 4) (by decide), zendm_r W s (i := 5) (by decide), zendm_r W s (i := 6) (by decide)]
      exact ⟨hw, hW, h5, hd, hst, hms, hmi, hov, hfr, hlt, key⟩
    · split
      · exact zLn (zL4 hs) rfl
      · split
        · exact zLn (zL5 hs (by have := hs.2.2.2.2.1; omega)) rfl
        · next h1 h2 h3 h4 =>
          obtain ⟨hw, hW, h5, hd, hst, hms, hmi, hov, hfr, hlt, hL, h7, hn⟩ := hs
          have hg := zdo_g (s := zsR s 5 (s.2.2 5 + 1)) (k := s.2.2 7) (n := n) hw (hW.2.1 _ (by omega)) h5 (by rw [zsR_n (by decide)]; exact hd)
          have hr5 := zdo_r W (s.2.2 7) (zsR s 5 (s.2.2 5 + 1)) (i := 5) (by decide) (by decide) (by decide) (by decide)
          have hr0 := zdo_r W (s.2.2 7) (zsR s 5 (s.2.2 5 + 1)) (i := 0) (by decide) (by decide) (by decide) (by decide)
          have hr4 := zdo_r W (s.2.2 7) (zsR s 5 (s.2.2 5 + 1)) (i := 4) (by decide) (by decide) (by decide) (by decide)
          have hrL := zdo_L W (s.2.2 7) (zsR s 5 (s.2.2 5 + 1))
          rw [zsR_e] at hr5
          rw [zsR_n (by decide)] at hr0 hr4
          unfold zdg at hg
          rw [zsR_n (by decide), zsR_n (by decide), zsR_n (by decide)] at hg
          generalize zdo W (s.2.2 7) (zsR s 5 (s.2.2 5 + 1)) = r at *
          obtain ⟨g1, g2, g3, g4, g5, g6, g7⟩ := hg
          have key := zlk_step hW ⟨hL, h7, hn⟩ (by omega) h2 (zholds W (s.2.2 7) r.2.1)
          have e0 : (zbeh W (s.2.2 7) r).2.2 0 ≤ r.2.2.2 0 + 1 := by
            unfold zbeh
            rw [zsR_n (by decide), zsR_e]
            split <;> omega
          have e7 : (zbeh W (s.2.2 7) r).2.2 7 = if 1500 ≤ W (s.2.2 7) 0 ∧ zholds W (s.2.2 7) r.2.1 = false then W (s.2.2 7) 4 + 1 else s.2.2 7 + 1 := zsR_e
          have eL := zbeh_L W (s.2.2 7) r
          rw [hrL] at eL
          have eL' : (zbeh W (s.2.2 7) r).2.1 = if W (s.2.2 7) 0 = 16 then zn s.2.1 (s.2.2 7) (W (s.2.2 7) 1) else s.2.1 := eL
          rw [← eL', ← e7] at key
          unfold zLW
          rw [zbeh_C, zbeh_r W _ r (i := 1) (by decide) (by decide), zbeh_r W _ r (i := 2) (by decide) (by decide), zbeh_r W _ r (i := 3) (by decide) (by decide), zbeh_r W _ r (i := 4) (by decide) (by decide), zbeh_r W _ r (i := 5) (by decide) (by decide), zbeh_r W _ r (i := 6) (by decide) (by decide)]
          rw [hr5, hr4]
          refine ⟨g1, ?_, g3, g4, by omega, by omega, by omega, by omega, by omega, hlt, key⟩
          rw [g2 0 (by decide) (by decide), g2 2 (by decide) (by decide), g2 3 (by decide) (by decide)]
          exact hW
theorem zfin_h {W : Nat → Nat → Nat} {n : Nat} {s : zL} (h : s.2.2 8 = 1) : zfin W n s = s := zgo_h W n _ s h
theorem zgo_eq {W : Nat → Nat → Nat} {n : Nat} : ∀ f f' s, zLW W n s → zphi W n s ≤ f → zphi W n s ≤ f' → zgo W n f s = zgo W n f' s := by
  intro f
  induction f with
  | zero =>
    intro f' s hs h h'
    by_cases h8 : s.2.2 8 = 1
    · rw [zgo_h _ _ _ _ h8, zgo_h _ _ _ _ h8]
    · have := zphi_lt hs h8
      omega
  | succ f ih =>
    intro f' s hs h h'
    by_cases h8 : s.2.2 8 = 1
    · rw [zgo_h _ _ _ _ h8, zgo_h _ _ _ _ h8]
    · have h1 := zphi_lt hs h8
      obtain ⟨g, rfl⟩ : ∃ g, f' = g + 1 := ⟨f' - 1, by omega⟩
      rw [zgo, if_neg h8, zgo, if_neg h8]
      exact ih g _ (zLW_move hs) (by omega) (by omega)
theorem zgo_more {W : Nat → Nat → Nat} {n : Nat} (f : Nat) (s : zL) (hs : zLW W n s) (h : zphi W n s ≤ f) : zgo W n f s = zfin W n s := zgo_eq _ _ _ hs h (Nat.le_refl _)
theorem zfin_s {W : Nat → Nat → Nat} {n : Nat} {s : zL} (hs : zLW W n s) (h : s.2.2 8 ≠ 1) : zfin W n s = zfin W n (zmove1 W n s) := by
  have h1 := zphi_lt hs h
  obtain ⟨g, hg⟩ : ∃ g, zphi W n s = g + 1 := ⟨zphi W n s - 1, by omega⟩
  rw [zfin, hg, zgo, if_neg h]
  exact zgo_more _ _ (zLW_move hs) (by omega)
