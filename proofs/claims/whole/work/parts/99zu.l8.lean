/-! the law: more calls -/
theorem g_stir {E : qE} {b L : Nat} {xs : Nat → Int32} {nc ns i : Nat} {σ : qSg} (hB : zBoth σ) (hi : i + 5 < L) (hL : L ≤ 3072) (h1 : nc ≤ 600000) (h2 : ns ≤ 7302250) (K : ∀ σ', zBoth σ' → gW E b L xs nc ns 1911 [(3, .int (nI i)), (2, .ref (E.2.1 139)), (1, .ref (E.2.1 0)), (0, .ref b)] [] (qws E σ')) : gW E b L xs nc ns 941 [(3, .int (nI i)), (2, .ref (E.2.1 139)), (1, .ref (E.2.1 0)), (0, .ref b)] [] (qws E σ) := by
  obtain ⟨A, hX, hM, hW⟩ := hB
  refine gW.al (n := 1) (i := 1) 2 (by decide +kernel) rfl rfl ?_
  refine gW.arg (i := i) (k := 1) (j3 := 0) (j0 := 3) rfl rfl (by omega) hL (by decide +kernel) (by decide +kernel) (by decide +kernel) (by decide +kernel) (by decide +kernel) ?_
  refine gW.arg (i := i) (k := 2) (j3 := 0) (j0 := 3) rfl rfl (by omega) hL (by decide +kernel) (by decide +kernel) (by decide +kernel) (by decide +kernel) (by decide +kernel) ?_
  refine gW.cI (k := 165) (a0 := 0) (as := [qi (xs (i + 1)), qi (xs (i + 2))]) (rest := []) (X_stir hX hW (xs (i + 1)) (xs (i + 2))) (n := 105) (by decide +kernel) rfl (h := 1298) (by decide +kernel) rfl rfl (by decide +kernel) (by decide) (Nat.le_of_ble_eq_true rfl) h1 h2 (fun r σ1 g1 => ?_)
  have hM1 := zPairM hM hW g1
  refine gW.al (n := 2) (i := 2) 1 (by decide +kernel) rfl rfl ?_
  refine gW.arg (i := i) (k := 1) (j3 := 0) (j0 := 3) rfl rfl (by omega) hL (by decide +kernel) (by decide +kernel) (by decide +kernel) (by decide +kernel) (by decide +kernel) ?_
  refine gW.arg (i := i) (k := 2) (j3 := 0) (j0 := 3) rfl rfl (by omega) hL (by decide +kernel) (by decide +kernel) (by decide +kernel) (by decide +kernel) (by decide +kernel) ?_
  refine gW.cI (k := 292) (a0 := 139) (as := [qi (xs (i + 1)), qi (xs (i + 2))]) (rest := [.int r]) (M_stir hM1 hW (xs (i + 1)) (xs (i + 2))) (n := 108) (by decide +kernel) rfl (h := 2213) (by decide +kernel) rfl rfl (by decide +kernel) (by decide) (Nat.le_of_ble_eq_true rfl) h1 h2 (fun r' σ2 g2 => ?_)
  obtain ⟨e, hB'⟩ := zPairI hX hM hW g1 (fun _ => g2)
  exact gW.eq (off := 942) 1911 e (by decide +kernel) rfl (K _ hB')
theorem g_come {E : qE} {b L : Nat} {xs : Nat → Int32} {nc ns i : Nat} {σ : qSg} (hB : zBoth σ) (hi : i + 5 < L) (hL : L ≤ 3072) (h1 : nc ≤ 600000) (h2 : ns ≤ 7302250) (K : ∀ σ', zBoth σ' → gW E b L xs nc ns 1911 [(3, .int (nI i)), (2, .ref (E.2.1 139)), (1, .ref (E.2.1 0)), (0, .ref b)] [] (qws E σ')) : gW E b L xs nc ns 974 [(3, .int (nI i)), (2, .ref (E.2.1 139)), (1, .ref (E.2.1 0)), (0, .ref b)] [] (qws E σ) := by
  obtain ⟨A, hX, hM, hW⟩ := hB
  refine gW.al (n := 1) (i := 1) 2 (by decide +kernel) rfl rfl ?_
  refine gW.arg (i := i) (k := 1) (j3 := 0) (j0 := 3) rfl rfl (by omega) hL (by decide +kernel) (by decide +kernel) (by decide +kernel) (by decide +kernel) (by decide +kernel) ?_
  refine gW.arg (i := i) (k := 2) (j3 := 0) (j0 := 3) rfl rfl (by omega) hL (by decide +kernel) (by decide +kernel) (by decide +kernel) (by decide +kernel) (by decide +kernel) ?_
  refine gW.cI (k := 166) (a0 := 0) (as := [qi (xs (i + 1)), qi (xs (i + 2))]) (rest := []) (X_come hX hW (xs (i + 1)) (xs (i + 2))) (n := 109) (by decide +kernel) rfl (h := 1306) (by decide +kernel) rfl rfl (by decide +kernel) (by decide) (Nat.le_of_ble_eq_true rfl) h1 h2 (fun r σ1 g1 => ?_)
  have hM1 := zPairM hM hW g1
  refine gW.al (n := 2) (i := 2) 1 (by decide +kernel) rfl rfl ?_
  refine gW.arg (i := i) (k := 1) (j3 := 0) (j0 := 3) rfl rfl (by omega) hL (by decide +kernel) (by decide +kernel) (by decide +kernel) (by decide +kernel) (by decide +kernel) ?_
  refine gW.arg (i := i) (k := 2) (j3 := 0) (j0 := 3) rfl rfl (by omega) hL (by decide +kernel) (by decide +kernel) (by decide +kernel) (by decide +kernel) (by decide +kernel) ?_
  refine gW.cI (k := 293) (a0 := 139) (as := [qi (xs (i + 1)), qi (xs (i + 2))]) (rest := [.int r]) (M_come hM1 hW (xs (i + 1)) (xs (i + 2))) (n := 112) (by decide +kernel) rfl (h := 2217) (by decide +kernel) rfl rfl (by decide +kernel) (by decide) (Nat.le_of_ble_eq_true rfl) h1 h2 (fun r' σ2 g2 => ?_)
  obtain ⟨e, hB'⟩ := zPairI hX hM hW g1 (fun _ => g2)
  exact gW.eq (off := 909) 1911 e (by decide +kernel) rfl (K _ hB')
theorem g_rule {E : qE} {b L : Nat} {xs : Nat → Int32} {nc ns i : Nat} {σ : qSg} (hB : zBoth σ) (hi : i + 5 < L) (hL : L ≤ 3072) (h1 : nc ≤ 600000) (h2 : ns ≤ 7302250) (K : ∀ σ', zBoth σ' → gW E b L xs nc ns 1911 [(3, .int (nI i)), (2, .ref (E.2.1 139)), (1, .ref (E.2.1 0)), (0, .ref b)] [] (qws E σ')) : gW E b L xs nc ns 1007 [(3, .int (nI i)), (2, .ref (E.2.1 139)), (1, .ref (E.2.1 0)), (0, .ref b)] [] (qws E σ) := by
  obtain ⟨A, hX, hM, hW⟩ := hB
  refine gW.al (n := 1) (i := 1) 2 (by decide +kernel) rfl rfl ?_
  refine gW.arg (i := i) (k := 1) (j3 := 0) (j0 := 3) rfl rfl (by omega) hL (by decide +kernel) (by decide +kernel) (by decide +kernel) (by decide +kernel) (by decide +kernel) ?_
  refine gW.cI (k := 167) (a0 := 0) (as := [qi (xs (i + 1))]) (rest := []) (X_rule hX hW (xs (i + 1))) (n := 113) (by decide +kernel) rfl (h := 1311) (by decide +kernel) rfl rfl (by decide +kernel) (by decide) (Nat.le_of_ble_eq_true rfl) h1 h2 (fun r σ1 g1 => ?_)
  have hM1 := zPairM hM hW g1
  refine gW.al (n := 2) (i := 2) 1 (by decide +kernel) rfl rfl ?_
  refine gW.arg (i := i) (k := 1) (j3 := 0) (j0 := 3) rfl rfl (by omega) hL (by decide +kernel) (by decide +kernel) (by decide +kernel) (by decide +kernel) (by decide +kernel) ?_
  refine gW.cI (k := 294) (a0 := 139) (as := [qi (xs (i + 1))]) (rest := [.int r]) (M_rule hM1 hW (xs (i + 1))) (n := 117) (by decide +kernel) rfl (h := 2221) (by decide +kernel) rfl rfl (by decide +kernel) (by decide) (Nat.le_of_ble_eq_true rfl) h1 h2 (fun r' σ2 g2 => ?_)
  obtain ⟨e, hB'⟩ := zPairI hX hM hW g1 (fun _ => g2)
  exact gW.eq (off := 886) 1911 e (by decide +kernel) rfl (K _ hB')
theorem g_far {E : qE} {b L : Nat} {xs : Nat → Int32} {nc ns i : Nat} {σ : qSg} (hB : zBoth σ) (hi : i + 5 < L) (hL : L ≤ 3072) (h1 : nc ≤ 600000) (h2 : ns ≤ 7302250) (K : ∀ σ', zBoth σ' → gW E b L xs nc ns 1911 [(3, .int (nI i)), (2, .ref (E.2.1 139)), (1, .ref (E.2.1 0)), (0, .ref b)] [] (qws E σ')) : gW E b L xs nc ns 1030 [(3, .int (nI i)), (2, .ref (E.2.1 139)), (1, .ref (E.2.1 0)), (0, .ref b)] [] (qws E σ) := by
  obtain ⟨A, hX, hM, hW⟩ := hB
  refine gW.al (n := 1) (i := 1) 2 (by decide +kernel) rfl rfl ?_
  refine gW.arg (i := i) (k := 1) (j3 := 0) (j0 := 3) rfl rfl (by omega) hL (by decide +kernel) (by decide +kernel) (by decide +kernel) (by decide +kernel) (by decide +kernel) ?_
  refine gW.arg (i := i) (k := 2) (j3 := 0) (j0 := 3) rfl rfl (by omega) hL (by decide +kernel) (by decide +kernel) (by decide +kernel) (by decide +kernel) (by decide +kernel) ?_
  refine gW.cI (k := 168) (a0 := 0) (as := [qi (xs (i + 1)), qi (xs (i + 2))]) (rest := []) (X_far hX hW (xs (i + 1)) (xs (i + 2))) (n := 118) (by decide +kernel) rfl (h := 1316) (by decide +kernel) rfl rfl (by decide +kernel) (by decide) (Nat.le_of_ble_eq_true rfl) h1 h2 (fun r σ1 g1 => ?_)
  have hM1 := zPairM hM hW g1
  refine gW.al (n := 2) (i := 2) 1 (by decide +kernel) rfl rfl ?_
  refine gW.arg (i := i) (k := 1) (j3 := 0) (j0 := 3) rfl rfl (by omega) hL (by decide +kernel) (by decide +kernel) (by decide +kernel) (by decide +kernel) (by decide +kernel) ?_
  refine gW.arg (i := i) (k := 2) (j3 := 0) (j0 := 3) rfl rfl (by omega) hL (by decide +kernel) (by decide +kernel) (by decide +kernel) (by decide +kernel) (by decide +kernel) ?_
  refine gW.cI (k := 295) (a0 := 139) (as := [qi (xs (i + 1)), qi (xs (i + 2))]) (rest := [.int r]) (M_far hM1 hW (xs (i + 1)) (xs (i + 2))) (n := 121) (by decide +kernel) rfl (h := 2226) (by decide +kernel) rfl rfl (by decide +kernel) (by decide) (Nat.le_of_ble_eq_true rfl) h1 h2 (fun r' σ2 g2 => ?_)
  obtain ⟨e, hB'⟩ := zPairI hX hM hW g1 (fun _ => g2)
  exact gW.eq (off := 853) 1911 e (by decide +kernel) rfl (K _ hB')
theorem g_hears {E : qE} {b L : Nat} {xs : Nat → Int32} {nc ns i : Nat} {σ : qSg} (hB : zBoth σ) (hi : i + 5 < L) (hL : L ≤ 3072) (h1 : nc ≤ 600000) (h2 : ns ≤ 7302250) (K : ∀ σ', zBoth σ' → gW E b L xs nc ns 1911 [(3, .int (nI i)), (2, .ref (E.2.1 139)), (1, .ref (E.2.1 0)), (0, .ref b)] [] (qws E σ')) : gW E b L xs nc ns 1063 [(3, .int (nI i)), (2, .ref (E.2.1 139)), (1, .ref (E.2.1 0)), (0, .ref b)] [] (qws E σ) := by
  obtain ⟨A, hX, hM, hW⟩ := hB
  refine gW.al (n := 1) (i := 1) 2 (by decide +kernel) rfl rfl ?_
  refine gW.arg (i := i) (k := 1) (j3 := 0) (j0 := 3) rfl rfl (by omega) hL (by decide +kernel) (by decide +kernel) (by decide +kernel) (by decide +kernel) (by decide +kernel) ?_
  refine gW.cI (k := 169) (a0 := 0) (as := [qi (xs (i + 1))]) (rest := []) (X_hears hX hW (xs (i + 1))) (n := 122) (by decide +kernel) rfl (h := 1321) (by decide +kernel) rfl rfl (by decide +kernel) (by decide) (Nat.le_of_ble_eq_true rfl) h1 h2 (fun r σ1 g1 => ?_)
  have hM1 := zPairM hM hW g1
  refine gW.al (n := 2) (i := 2) 1 (by decide +kernel) rfl rfl ?_
  refine gW.arg (i := i) (k := 1) (j3 := 0) (j0 := 3) rfl rfl (by omega) hL (by decide +kernel) (by decide +kernel) (by decide +kernel) (by decide +kernel) (by decide +kernel) ?_
  refine gW.cI (k := 296) (a0 := 139) (as := [qi (xs (i + 1))]) (rest := [.int r]) (M_hears hM1 hW (xs (i + 1))) (n := 125) (by decide +kernel) rfl (h := 2230) (by decide +kernel) rfl rfl (by decide +kernel) (by decide) (Nat.le_of_ble_eq_true rfl) h1 h2 (fun r' σ2 g2 => ?_)
  obtain ⟨e, hB'⟩ := zPairI hX hM hW g1 (fun _ => g2)
  exact gW.eq (off := 830) 1911 e (by decide +kernel) rfl (K _ hB')
theorem g_near {E : qE} {b L : Nat} {xs : Nat → Int32} {nc ns i : Nat} {σ : qSg} (hB : zBoth σ) (hi : i + 5 < L) (hL : L ≤ 3072) (h1 : nc ≤ 600000) (h2 : ns ≤ 7302250) (K : ∀ σ', zBoth σ' → gW E b L xs nc ns 1911 [(3, .int (nI i)), (2, .ref (E.2.1 139)), (1, .ref (E.2.1 0)), (0, .ref b)] [] (qws E σ')) : gW E b L xs nc ns 1086 [(3, .int (nI i)), (2, .ref (E.2.1 139)), (1, .ref (E.2.1 0)), (0, .ref b)] [] (qws E σ) := by
  obtain ⟨A, hX, hM, hW⟩ := hB
  refine gW.al (n := 1) (i := 1) 2 (by decide +kernel) rfl rfl ?_
  refine gW.arg (i := i) (k := 1) (j3 := 0) (j0 := 3) rfl rfl (by omega) hL (by decide +kernel) (by decide +kernel) (by decide +kernel) (by decide +kernel) (by decide +kernel) ?_
  refine gW.cI (k := 170) (a0 := 0) (as := [qi (xs (i + 1))]) (rest := []) (X_near hX hW (xs (i + 1))) (n := 126) (by decide +kernel) rfl (h := 1325) (by decide +kernel) rfl rfl (by decide +kernel) (by decide) (Nat.le_of_ble_eq_true rfl) h1 h2 (fun r σ1 g1 => ?_)
  have hM1 := zPairM hM hW g1
  refine gW.al (n := 2) (i := 2) 1 (by decide +kernel) rfl rfl ?_
  refine gW.arg (i := i) (k := 1) (j3 := 0) (j0 := 3) rfl rfl (by omega) hL (by decide +kernel) (by decide +kernel) (by decide +kernel) (by decide +kernel) (by decide +kernel) ?_
  refine gW.cI (k := 297) (a0 := 139) (as := [qi (xs (i + 1))]) (rest := [.int r]) (M_near hM1 hW (xs (i + 1))) (n := 129) (by decide +kernel) rfl (h := 2234) (by decide +kernel) rfl rfl (by decide +kernel) (by decide) (Nat.le_of_ble_eq_true rfl) h1 h2 (fun r' σ2 g2 => ?_)
  obtain ⟨e, hB'⟩ := zPairI hX hM hW g1 (fun _ => g2)
  exact gW.eq (off := 807) 1911 e (by decide +kernel) rfl (K _ hB')
theorem g_due {E : qE} {b L : Nat} {xs : Nat → Int32} {nc ns i : Nat} {σ : qSg} (hB : zBoth σ) (hi : i + 5 < L) (hL : L ≤ 3072) (h1 : nc ≤ 600000) (h2 : ns ≤ 7302250) (K : ∀ σ', zBoth σ' → gW E b L xs nc ns 1911 [(3, .int (nI i)), (2, .ref (E.2.1 139)), (1, .ref (E.2.1 0)), (0, .ref b)] [] (qws E σ')) : gW E b L xs nc ns 1109 [(3, .int (nI i)), (2, .ref (E.2.1 139)), (1, .ref (E.2.1 0)), (0, .ref b)] [] (qws E σ) := by
  obtain ⟨A, hX, hM, hW⟩ := hB
  refine gW.al (n := 1) (i := 1) 2 (by decide +kernel) rfl rfl ?_
  refine gW.arg (i := i) (k := 1) (j3 := 0) (j0 := 3) rfl rfl (by omega) hL (by decide +kernel) (by decide +kernel) (by decide +kernel) (by decide +kernel) (by decide +kernel) ?_
  refine gW.arg (i := i) (k := 2) (j3 := 0) (j0 := 3) rfl rfl (by omega) hL (by decide +kernel) (by decide +kernel) (by decide +kernel) (by decide +kernel) (by decide +kernel) ?_
  refine gW.cI (k := 171) (a0 := 0) (as := [qi (xs (i + 1)), qi (xs (i + 2))]) (rest := []) (X_due hX hW (xs (i + 1)) (xs (i + 2))) (n := 130) (by decide +kernel) rfl (h := 1329) (by decide +kernel) rfl rfl (by decide +kernel) (by decide) (Nat.le_of_ble_eq_true rfl) h1 h2 (fun r σ1 g1 => ?_)
  have hM1 := zPairM hM hW g1
  refine gW.al (n := 2) (i := 2) 1 (by decide +kernel) rfl rfl ?_
  refine gW.arg (i := i) (k := 1) (j3 := 0) (j0 := 3) rfl rfl (by omega) hL (by decide +kernel) (by decide +kernel) (by decide +kernel) (by decide +kernel) (by decide +kernel) ?_
  refine gW.arg (i := i) (k := 2) (j3 := 0) (j0 := 3) rfl rfl (by omega) hL (by decide +kernel) (by decide +kernel) (by decide +kernel) (by decide +kernel) (by decide +kernel) ?_
  refine gW.cI (k := 298) (a0 := 139) (as := [qi (xs (i + 1)), qi (xs (i + 2))]) (rest := [.int r]) (M_due hM1 hW (xs (i + 1)) (xs (i + 2))) (n := 133) (by decide +kernel) rfl (h := 2238) (by decide +kernel) rfl rfl (by decide +kernel) (by decide) (Nat.le_of_ble_eq_true rfl) h1 h2 (fun r' σ2 g2 => ?_)
  obtain ⟨e, hB'⟩ := zPairI hX hM hW g1 (fun _ => g2)
  exact gW.eq (off := 774) 1911 e (by decide +kernel) rfl (K _ hB')
theorem g_upIn {E : qE} {b L : Nat} {xs : Nat → Int32} {nc ns i : Nat} {σ : qSg} (hB : zBoth σ) (hi : i + 5 < L) (hL : L ≤ 3072) (h1 : nc ≤ 600000) (h2 : ns ≤ 7302250) (K : ∀ σ', zBoth σ' → gW E b L xs nc ns 1911 [(3, .int (nI i)), (2, .ref (E.2.1 139)), (1, .ref (E.2.1 0)), (0, .ref b)] [] (qws E σ')) : gW E b L xs nc ns 1142 [(3, .int (nI i)), (2, .ref (E.2.1 139)), (1, .ref (E.2.1 0)), (0, .ref b)] [] (qws E σ) := by
  obtain ⟨A, hX, hM, hW⟩ := hB
  refine gW.al (n := 1) (i := 1) 2 (by decide +kernel) rfl rfl ?_
  refine gW.arg (i := i) (k := 1) (j3 := 0) (j0 := 3) rfl rfl (by omega) hL (by decide +kernel) (by decide +kernel) (by decide +kernel) (by decide +kernel) (by decide +kernel) ?_
  refine gW.cI (k := 172) (a0 := 0) (as := [qi (xs (i + 1))]) (rest := []) (X_upIn hX hW (xs (i + 1))) (n := 134) (by decide +kernel) rfl (h := 1334) (by decide +kernel) rfl rfl (by decide +kernel) (by decide) (Nat.le_of_ble_eq_true rfl) h1 h2 (fun r σ1 g1 => ?_)
  have hM1 := zPairM hM hW g1
  refine gW.al (n := 2) (i := 2) 1 (by decide +kernel) rfl rfl ?_
  refine gW.arg (i := i) (k := 1) (j3 := 0) (j0 := 3) rfl rfl (by omega) hL (by decide +kernel) (by decide +kernel) (by decide +kernel) (by decide +kernel) (by decide +kernel) ?_
  refine gW.cI (k := 305) (a0 := 139) (as := [qi (xs (i + 1))]) (rest := [.int r]) (M_upIn hM1 hW (xs (i + 1))) (n := 137) (by decide +kernel) rfl (h := 2242) (by decide +kernel) rfl rfl (by decide +kernel) (by decide) (Nat.le_of_ble_eq_true rfl) h1 h2 (fun r' σ2 g2 => ?_)
  obtain ⟨e, hB'⟩ := zPairI hX hM hW g1 (fun _ => g2)
  exact gW.eq (off := 751) 1911 e (by decide +kernel) rfl (K _ hB')
theorem g_upBy {E : qE} {b L : Nat} {xs : Nat → Int32} {nc ns i : Nat} {σ : qSg} (hB : zBoth σ) (hi : i + 5 < L) (hL : L ≤ 3072) (h1 : nc ≤ 600000) (h2 : ns ≤ 7302250) (K : ∀ σ', zBoth σ' → gW E b L xs nc ns 1911 [(3, .int (nI i)), (2, .ref (E.2.1 139)), (1, .ref (E.2.1 0)), (0, .ref b)] [] (qws E σ')) : gW E b L xs nc ns 1165 [(3, .int (nI i)), (2, .ref (E.2.1 139)), (1, .ref (E.2.1 0)), (0, .ref b)] [] (qws E σ) := by
  obtain ⟨A, hX, hM, hW⟩ := hB
  refine gW.al (n := 1) (i := 1) 2 (by decide +kernel) rfl rfl ?_
  refine gW.arg (i := i) (k := 1) (j3 := 0) (j0 := 3) rfl rfl (by omega) hL (by decide +kernel) (by decide +kernel) (by decide +kernel) (by decide +kernel) (by decide +kernel) ?_
  refine gW.cI (k := 173) (a0 := 0) (as := [qi (xs (i + 1))]) (rest := []) (X_upBy hX hW (xs (i + 1))) (n := 138) (by decide +kernel) rfl (h := 1359) (by decide +kernel) rfl rfl (by decide +kernel) (by decide) (Nat.le_of_ble_eq_true rfl) h1 h2 (fun r σ1 g1 => ?_)
  have hM1 := zPairM hM hW g1
  refine gW.al (n := 2) (i := 2) 1 (by decide +kernel) rfl rfl ?_
  refine gW.arg (i := i) (k := 1) (j3 := 0) (j0 := 3) rfl rfl (by omega) hL (by decide +kernel) (by decide +kernel) (by decide +kernel) (by decide +kernel) (by decide +kernel) ?_
  refine gW.cI (k := 306) (a0 := 139) (as := [qi (xs (i + 1))]) (rest := [.int r]) (M_upBy hM1 hW (xs (i + 1))) (n := 141) (by decide +kernel) rfl (h := 2258) (by decide +kernel) rfl rfl (by decide +kernel) (by decide) (Nat.le_of_ble_eq_true rfl) h1 h2 (fun r' σ2 g2 => ?_)
  obtain ⟨e, hB'⟩ := zPairI hX hM hW g1 (fun _ => g2)
  exact gW.eq (off := 728) 1911 e (by decide +kernel) rfl (K _ hB')
theorem g_breakfast {E : qE} {b L : Nat} {xs : Nat → Int32} {nc ns i : Nat} {σ : qSg} (hB : zBoth σ) (hi : i + 5 < L) (hL : L ≤ 3072) (h1 : nc ≤ 600000) (h2 : ns ≤ 7302250) (K : ∀ σ', zBoth σ' → gW E b L xs nc ns 1911 [(3, .int (nI i)), (2, .ref (E.2.1 139)), (1, .ref (E.2.1 0)), (0, .ref b)] [] (qws E σ')) : gW E b L xs nc ns 1188 [(3, .int (nI i)), (2, .ref (E.2.1 139)), (1, .ref (E.2.1 0)), (0, .ref b)] [] (qws E σ) := by
  obtain ⟨A, hX, hM, hW⟩ := hB
  refine gW.al (n := 1) (i := 1) 2 (by decide +kernel) rfl rfl ?_
  refine gW.cI (k := 174) (a0 := 0) (as := []) (rest := []) (X_breakfast hX hW) (n := 142) (by decide +kernel) rfl (h := 1368) (by decide +kernel) rfl rfl (by decide +kernel) (by decide) (Nat.le_of_ble_eq_true rfl) h1 h2 (fun r σ1 g1 => ?_)
  have hM1 := zPairM hM hW g1
  refine gW.al (n := 2) (i := 2) 1 (by decide +kernel) rfl rfl ?_
  refine gW.cI (k := 307) (a0 := 139) (as := []) (rest := [.int r]) (M_breakfast hM1 hW) (n := 145) (by decide +kernel) rfl (h := 2263) (by decide +kernel) rfl rfl (by decide +kernel) (by decide) (Nat.le_of_ble_eq_true rfl) h1 h2 (fun r' σ2 g2 => ?_)
  obtain ⟨e, hB'⟩ := zPairI hX hM hW g1 (fun _ => g2)
  exact gW.eq (off := 715) 1911 e (by decide +kernel) rfl (K _ hB')
theorem g_overIn {E : qE} {b L : Nat} {xs : Nat → Int32} {nc ns i : Nat} {σ : qSg} (hB : zBoth σ) (hi : i + 5 < L) (hL : L ≤ 3072) (h1 : nc ≤ 600000) (h2 : ns ≤ 7302250) (K : ∀ σ', zBoth σ' → gW E b L xs nc ns 1911 [(3, .int (nI i)), (2, .ref (E.2.1 139)), (1, .ref (E.2.1 0)), (0, .ref b)] [] (qws E σ')) : gW E b L xs nc ns 1201 [(3, .int (nI i)), (2, .ref (E.2.1 139)), (1, .ref (E.2.1 0)), (0, .ref b)] [] (qws E σ) := by
  obtain ⟨A, hX, hM, hW⟩ := hB
  refine gW.al (n := 1) (i := 1) 2 (by decide +kernel) rfl rfl ?_
  refine gW.arg (i := i) (k := 1) (j3 := 0) (j0 := 3) rfl rfl (by omega) hL (by decide +kernel) (by decide +kernel) (by decide +kernel) (by decide +kernel) (by decide +kernel) ?_
  refine gW.cI (k := 175) (a0 := 0) (as := [qi (xs (i + 1))]) (rest := []) (X_overIn hX hW (xs (i + 1))) (n := 146) (by decide +kernel) rfl (h := 1372) (by decide +kernel) rfl rfl (by decide +kernel) (by decide) (Nat.le_of_ble_eq_true rfl) h1 h2 (fun r σ1 g1 => ?_)
  have hM1 := zPairM hM hW g1
  refine gW.al (n := 2) (i := 2) 1 (by decide +kernel) rfl rfl ?_
  refine gW.arg (i := i) (k := 1) (j3 := 0) (j0 := 3) rfl rfl (by omega) hL (by decide +kernel) (by decide +kernel) (by decide +kernel) (by decide +kernel) (by decide +kernel) ?_
  refine gW.cI (k := 309) (a0 := 139) (as := [qi (xs (i + 1))]) (rest := [.int r]) (M_overIn hM1 hW (xs (i + 1))) (n := 149) (by decide +kernel) rfl (h := 2275) (by decide +kernel) rfl rfl (by decide +kernel) (by decide) (Nat.le_of_ble_eq_true rfl) h1 h2 (fun r' σ2 g2 => ?_)
  obtain ⟨e, hB'⟩ := zPairI hX hM hW g1 (fun _ => g2)
  exact gW.eq (off := 692) 1911 e (by decide +kernel) rfl (K _ hB')
theorem g_yielder {E : qE} {b L : Nat} {xs : Nat → Int32} {nc ns i : Nat} {σ : qSg} (hB : zBoth σ) (hi : i + 5 < L) (hL : L ≤ 3072) (h1 : nc ≤ 600000) (h2 : ns ≤ 7302250) (K : ∀ σ', zBoth σ' → gW E b L xs nc ns 1911 [(3, .int (nI i)), (2, .ref (E.2.1 139)), (1, .ref (E.2.1 0)), (0, .ref b)] [] (qws E σ')) : gW E b L xs nc ns 1224 [(3, .int (nI i)), (2, .ref (E.2.1 139)), (1, .ref (E.2.1 0)), (0, .ref b)] [] (qws E σ) := by
  obtain ⟨A, hX, hM, hW⟩ := hB
  refine gW.al (n := 1) (i := 1) 2 (by decide +kernel) rfl rfl ?_
  refine gW.arg (i := i) (k := 1) (j3 := 0) (j0 := 3) rfl rfl (by omega) hL (by decide +kernel) (by decide +kernel) (by decide +kernel) (by decide +kernel) (by decide +kernel) ?_
  refine gW.cI (k := 176) (a0 := 0) (as := [qi (xs (i + 1))]) (rest := []) (X_yielder hX hW (xs (i + 1))) (n := 150) (by decide +kernel) rfl (h := 1376) (by decide +kernel) rfl rfl (by decide +kernel) (by decide) (Nat.le_of_ble_eq_true rfl) h1 h2 (fun r σ1 g1 => ?_)
  have hM1 := zPairM hM hW g1
  refine gW.al (n := 2) (i := 2) 1 (by decide +kernel) rfl rfl ?_
  refine gW.arg (i := i) (k := 1) (j3 := 0) (j0 := 3) rfl rfl (by omega) hL (by decide +kernel) (by decide +kernel) (by decide +kernel) (by decide +kernel) (by decide +kernel) ?_
  refine gW.cI (k := 310) (a0 := 139) (as := [qi (xs (i + 1))]) (rest := [.int r]) (M_yielder hM1 hW (xs (i + 1))) (n := 153) (by decide +kernel) rfl (h := 2283) (by decide +kernel) rfl rfl (by decide +kernel) (by decide) (Nat.le_of_ble_eq_true rfl) h1 h2 (fun r' σ2 g2 => ?_)
  obtain ⟨e, hB'⟩ := zPairI hX hM hW g1 (fun _ => g2)
  exact gW.eq (off := 669) 1911 e (by decide +kernel) rfl (K _ hB')
theorem g_reveille {E : qE} {b L : Nat} {xs : Nat → Int32} {nc ns i : Nat} {σ : qSg} (hB : zBoth σ) (hi : i + 5 < L) (hL : L ≤ 3072) (h1 : nc ≤ 600000) (h2 : ns ≤ 7302250) (K : ∀ σ', zBoth σ' → gW E b L xs nc ns 1911 [(3, .int (nI i)), (2, .ref (E.2.1 139)), (1, .ref (E.2.1 0)), (0, .ref b)] [] (qws E σ')) : gW E b L xs nc ns 1247 [(3, .int (nI i)), (2, .ref (E.2.1 139)), (1, .ref (E.2.1 0)), (0, .ref b)] [] (qws E σ) := by
  obtain ⟨A, hX, hM, hW⟩ := hB
  refine gW.al (n := 1) (i := 1) 2 (by decide +kernel) rfl rfl ?_
  refine gW.cI (k := 177) (a0 := 0) (as := []) (rest := []) (X_reveille hX hW) (n := 154) (by decide +kernel) rfl (h := 1380) (by decide +kernel) rfl rfl (by decide +kernel) (by decide) (Nat.le_of_ble_eq_true rfl) h1 h2 (fun r σ1 g1 => ?_)
  have hM1 := zPairM hM hW g1
  refine gW.al (n := 2) (i := 2) 1 (by decide +kernel) rfl rfl ?_
  refine gW.cI (k := 312) (a0 := 139) (as := []) (rest := [.int r]) (M_reveille hM1 hW) (n := 157) (by decide +kernel) rfl (h := 2287) (by decide +kernel) rfl rfl (by decide +kernel) (by decide) (Nat.le_of_ble_eq_true rfl) h1 h2 (fun r' σ2 g2 => ?_)
  obtain ⟨e, hB'⟩ := zPairI hX hM hW g1 (fun _ => g2)
  exact gW.eq (off := 656) 1911 e (by decide +kernel) rfl (K _ hB')
theorem g_last {E : qE} {b L : Nat} {xs : Nat → Int32} {nc ns i : Nat} {σ : qSg} (hB : zBoth σ) (hi : i + 5 < L) (hL : L ≤ 3072) (h1 : nc ≤ 600000) (h2 : ns ≤ 7302250) (K : ∀ σ', zBoth σ' → gW E b L xs nc ns 1911 [(3, .int (nI i)), (2, .ref (E.2.1 139)), (1, .ref (E.2.1 0)), (0, .ref b)] [] (qws E σ')) : gW E b L xs nc ns 1260 [(3, .int (nI i)), (2, .ref (E.2.1 139)), (1, .ref (E.2.1 0)), (0, .ref b)] [] (qws E σ) := by
  obtain ⟨A, hX, hM, hW⟩ := hB
  refine gW.al (n := 1) (i := 1) 2 (by decide +kernel) rfl rfl ?_
  refine gW.cI (k := 178) (a0 := 0) (as := []) (rest := []) (X_last hX hW) (n := 158) (by decide +kernel) rfl (h := 1384) (by decide +kernel) rfl rfl (by decide +kernel) (by decide) (Nat.le_of_ble_eq_true rfl) h1 h2 (fun r σ1 g1 => ?_)
  have hM1 := zPairM hM hW g1
  refine gW.al (n := 2) (i := 2) 1 (by decide +kernel) rfl rfl ?_
  refine gW.cI (k := 314) (a0 := 139) (as := []) (rest := [.int r]) (M_last hM1 hW) (n := 161) (by decide +kernel) rfl (h := 2310) (by decide +kernel) rfl rfl (by decide +kernel) (by decide) (Nat.le_of_ble_eq_true rfl) h1 h2 (fun r' σ2 g2 => ?_)
  obtain ⟨e, hB'⟩ := zPairI hX hM hW g1 (fun _ => g2)
  exact gW.eq (off := 643) 1911 e (by decide +kernel) rfl (K _ hB')
theorem g_soonest {E : qE} {b L : Nat} {xs : Nat → Int32} {nc ns i : Nat} {σ : qSg} (hB : zBoth σ) (hi : i + 5 < L) (hL : L ≤ 3072) (h1 : nc ≤ 600000) (h2 : ns ≤ 7302250) (K : ∀ σ', zBoth σ' → gW E b L xs nc ns 1911 [(3, .int (nI i)), (2, .ref (E.2.1 139)), (1, .ref (E.2.1 0)), (0, .ref b)] [] (qws E σ')) : gW E b L xs nc ns 1273 [(3, .int (nI i)), (2, .ref (E.2.1 139)), (1, .ref (E.2.1 0)), (0, .ref b)] [] (qws E σ) := by
  obtain ⟨A, hX, hM, hW⟩ := hB
  refine gW.al (n := 1) (i := 1) 2 (by decide +kernel) rfl rfl ?_
  refine gW.arg (i := i) (k := 1) (j3 := 0) (j0 := 3) rfl rfl (by omega) hL (by decide +kernel) (by decide +kernel) (by decide +kernel) (by decide +kernel) (by decide +kernel) ?_
  refine gW.cI (k := 180) (a0 := 0) (as := [qi (xs (i + 1))]) (rest := []) (X_soonest hX hW (xs (i + 1))) (n := 162) (by decide +kernel) rfl (h := 1392) (by decide +kernel) rfl rfl (by decide +kernel) (by decide) (Nat.le_of_ble_eq_true rfl) h1 h2 (fun r σ1 g1 => ?_)
  have hM1 := zPairM hM hW g1
  refine gW.al (n := 2) (i := 2) 1 (by decide +kernel) rfl rfl ?_
  refine gW.arg (i := i) (k := 1) (j3 := 0) (j0 := 3) rfl rfl (by omega) hL (by decide +kernel) (by decide +kernel) (by decide +kernel) (by decide +kernel) (by decide +kernel) ?_
  refine gW.cI (k := 316) (a0 := 139) (as := [qi (xs (i + 1))]) (rest := [.int r]) (M_soonest hM1 hW (xs (i + 1))) (n := 165) (by decide +kernel) rfl (h := 2322) (by decide +kernel) rfl rfl (by decide +kernel) (by decide) (Nat.le_of_ble_eq_true rfl) h1 h2 (fun r' σ2 g2 => ?_)
  obtain ⟨e, hB'⟩ := zPairI hX hM hW g1 (fun _ => g2)
  exact gW.eq (off := 620) 1911 e (by decide +kernel) rfl (K _ hB')
theorem g_soonestIn {E : qE} {b L : Nat} {xs : Nat → Int32} {nc ns i : Nat} {σ : qSg} (hB : zBoth σ) (hi : i + 5 < L) (hL : L ≤ 3072) (h1 : nc ≤ 600000) (h2 : ns ≤ 7302250) (K : ∀ σ', zBoth σ' → gW E b L xs nc ns 1911 [(3, .int (nI i)), (2, .ref (E.2.1 139)), (1, .ref (E.2.1 0)), (0, .ref b)] [] (qws E σ')) : gW E b L xs nc ns 1296 [(3, .int (nI i)), (2, .ref (E.2.1 139)), (1, .ref (E.2.1 0)), (0, .ref b)] [] (qws E σ) := by
  obtain ⟨A, hX, hM, hW⟩ := hB
  refine gW.al (n := 1) (i := 1) 2 (by decide +kernel) rfl rfl ?_
  refine gW.arg (i := i) (k := 1) (j3 := 0) (j0 := 3) rfl rfl (by omega) hL (by decide +kernel) (by decide +kernel) (by decide +kernel) (by decide +kernel) (by decide +kernel) ?_
  refine gW.cI (k := 181) (a0 := 0) (as := [qi (xs (i + 1))]) (rest := []) (X_soonestIn hX hW (xs (i + 1))) (n := 166) (by decide +kernel) rfl (h := 1414) (by decide +kernel) rfl rfl (by decide +kernel) (by decide) (Nat.le_of_ble_eq_true rfl) h1 h2 (fun r σ1 g1 => ?_)
  have hM1 := zPairM hM hW g1
  refine gW.al (n := 2) (i := 2) 1 (by decide +kernel) rfl rfl ?_
  refine gW.arg (i := i) (k := 1) (j3 := 0) (j0 := 3) rfl rfl (by omega) hL (by decide +kernel) (by decide +kernel) (by decide +kernel) (by decide +kernel) (by decide +kernel) ?_
  refine gW.cI (k := 317) (a0 := 139) (as := [qi (xs (i + 1))]) (rest := [.int r]) (M_soonestIn hM1 hW (xs (i + 1))) (n := 169) (by decide +kernel) rfl (h := 2332) (by decide +kernel) rfl rfl (by decide +kernel) (by decide) (Nat.le_of_ble_eq_true rfl) h1 h2 (fun r' σ2 g2 => ?_)
  obtain ⟨e, hB'⟩ := zPairI hX hM hW g1 (fun _ => g2)
  exact gW.eq (off := 597) 1911 e (by decide +kernel) rfl (K _ hB')
theorem g_best {E : qE} {b L : Nat} {xs : Nat → Int32} {nc ns i : Nat} {σ : qSg} (hB : zBoth σ) (hi : i + 5 < L) (hL : L ≤ 3072) (h1 : nc ≤ 600000) (h2 : ns ≤ 7302250) (K : ∀ σ', zBoth σ' → gW E b L xs nc ns 1911 [(3, .int (nI i)), (2, .ref (E.2.1 139)), (1, .ref (E.2.1 0)), (0, .ref b)] [] (qws E σ')) : gW E b L xs nc ns 1319 [(3, .int (nI i)), (2, .ref (E.2.1 139)), (1, .ref (E.2.1 0)), (0, .ref b)] [] (qws E σ) := by
  obtain ⟨A, hX, hM, hW⟩ := hB
  refine gW.al (n := 1) (i := 1) 2 (by decide +kernel) rfl rfl ?_
  refine gW.arg (i := i) (k := 1) (j3 := 0) (j0 := 3) rfl rfl (by omega) hL (by decide +kernel) (by decide +kernel) (by decide +kernel) (by decide +kernel) (by decide +kernel) ?_
  refine gW.cI (k := 182) (a0 := 0) (as := [qi (xs (i + 1))]) (rest := []) (X_best hX hW (xs (i + 1))) (n := 170) (by decide +kernel) rfl (h := 1418) (by decide +kernel) rfl rfl (by decide +kernel) (by decide) (Nat.le_of_ble_eq_true rfl) h1 h2 (fun r σ1 g1 => ?_)
  have hM1 := zPairM hM hW g1
  refine gW.al (n := 2) (i := 2) 1 (by decide +kernel) rfl rfl ?_
  refine gW.arg (i := i) (k := 1) (j3 := 0) (j0 := 3) rfl rfl (by omega) hL (by decide +kernel) (by decide +kernel) (by decide +kernel) (by decide +kernel) (by decide +kernel) ?_
  refine gW.cI (k := 319) (a0 := 139) (as := [qi (xs (i + 1))]) (rest := [.int r]) (M_best hM1 hW (xs (i + 1))) (n := 173) (by decide +kernel) rfl (h := 2336) (by decide +kernel) rfl rfl (by decide +kernel) (by decide) (Nat.le_of_ble_eq_true rfl) h1 h2 (fun r' σ2 g2 => ?_)
  obtain ⟨e, hB'⟩ := zPairI hX hM hW g1 (fun _ => g2)
  exact gW.eq (off := 574) 1911 e (by decide +kernel) rfl (K _ hB')
theorem g_bestIn {E : qE} {b L : Nat} {xs : Nat → Int32} {nc ns i : Nat} {σ : qSg} (hB : zBoth σ) (hi : i + 5 < L) (hL : L ≤ 3072) (h1 : nc ≤ 600000) (h2 : ns ≤ 7302250) (K : ∀ σ', zBoth σ' → gW E b L xs nc ns 1911 [(3, .int (nI i)), (2, .ref (E.2.1 139)), (1, .ref (E.2.1 0)), (0, .ref b)] [] (qws E σ')) : gW E b L xs nc ns 1342 [(3, .int (nI i)), (2, .ref (E.2.1 139)), (1, .ref (E.2.1 0)), (0, .ref b)] [] (qws E σ) := by
  obtain ⟨A, hX, hM, hW⟩ := hB
  refine gW.al (n := 1) (i := 1) 2 (by decide +kernel) rfl rfl ?_
  refine gW.arg (i := i) (k := 1) (j3 := 0) (j0 := 3) rfl rfl (by omega) hL (by decide +kernel) (by decide +kernel) (by decide +kernel) (by decide +kernel) (by decide +kernel) ?_
  refine gW.cI (k := 183) (a0 := 0) (as := [qi (xs (i + 1))]) (rest := []) (X_bestIn hX hW (xs (i + 1))) (n := 174) (by decide +kernel) rfl (h := 1427) (by decide +kernel) rfl rfl (by decide +kernel) (by decide) (Nat.le_of_ble_eq_true rfl) h1 h2 (fun r σ1 g1 => ?_)
  have hM1 := zPairM hM hW g1
  refine gW.al (n := 2) (i := 2) 1 (by decide +kernel) rfl rfl ?_
  refine gW.arg (i := i) (k := 1) (j3 := 0) (j0 := 3) rfl rfl (by omega) hL (by decide +kernel) (by decide +kernel) (by decide +kernel) (by decide +kernel) (by decide +kernel) ?_
  refine gW.cI (k := 320) (a0 := 139) (as := [qi (xs (i + 1))]) (rest := [.int r]) (M_bestIn hM1 hW (xs (i + 1))) (n := 177) (by decide +kernel) rfl (h := 2344) (by decide +kernel) rfl rfl (by decide +kernel) (by decide) (Nat.le_of_ble_eq_true rfl) h1 h2 (fun r' σ2 g2 => ?_)
  obtain ⟨e, hB'⟩ := zPairI hX hM hW g1 (fun _ => g2)
  exact gW.eq (off := 551) 1911 e (by decide +kernel) rfl (K _ hB')
theorem g_ending {E : qE} {b L : Nat} {xs : Nat → Int32} {nc ns i : Nat} {σ : qSg} (hB : zBoth σ) (hi : i + 5 < L) (hL : L ≤ 3072) (h1 : nc ≤ 600000) (h2 : ns ≤ 7302250) (K : ∀ σ', zBoth σ' → gW E b L xs nc ns 1911 [(3, .int (nI i)), (2, .ref (E.2.1 139)), (1, .ref (E.2.1 0)), (0, .ref b)] [] (qws E σ')) : gW E b L xs nc ns 1365 [(3, .int (nI i)), (2, .ref (E.2.1 139)), (1, .ref (E.2.1 0)), (0, .ref b)] [] (qws E σ) := by
  obtain ⟨A, hX, hM, hW⟩ := hB
  refine gW.al (n := 1) (i := 1) 2 (by decide +kernel) rfl rfl ?_
  refine gW.cI (k := 184) (a0 := 0) (as := []) (rest := []) (X_ending hX hW) (n := 178) (by decide +kernel) rfl (h := 1431) (by decide +kernel) rfl rfl (by decide +kernel) (by decide) (Nat.le_of_ble_eq_true rfl) h1 h2 (fun r σ1 g1 => ?_)
  have hM1 := zPairM hM hW g1
  refine gW.al (n := 2) (i := 2) 1 (by decide +kernel) rfl rfl ?_
  refine gW.cI (k := 323) (a0 := 139) (as := []) (rest := [.int r]) (M_ending hM1 hW) (n := 181) (by decide +kernel) rfl (h := 2348) (by decide +kernel) rfl rfl (by decide +kernel) (by decide) (Nat.le_of_ble_eq_true rfl) h1 h2 (fun r' σ2 g2 => ?_)
  obtain ⟨e, hB'⟩ := zPairI hX hM hW g1 (fun _ => g2)
  exact gW.eq (off := 538) 1911 e (by decide +kernel) rfl (K _ hB')
theorem g_endingSet {E : qE} {b L : Nat} {xs : Nat → Int32} {nc ns i : Nat} {σ : qSg} (hB : zBoth σ) (hi : i + 5 < L) (hL : L ≤ 3072) (h1 : nc ≤ 600000) (h2 : ns ≤ 7302250) (K : ∀ σ', zBoth σ' → gW E b L xs nc ns 1911 [(3, .int (nI i)), (2, .ref (E.2.1 139)), (1, .ref (E.2.1 0)), (0, .ref b)] [] (qws E σ')) : gW E b L xs nc ns 1378 [(3, .int (nI i)), (2, .ref (E.2.1 139)), (1, .ref (E.2.1 0)), (0, .ref b)] [] (qws E σ) := by
  obtain ⟨A, hX, hM, hW⟩ := hB
  refine gW.al (n := 1) (i := 1) 2 (by decide +kernel) rfl rfl ?_
  refine gW.cI (k := 185) (a0 := 0) (as := []) (rest := []) (X_endingSet hX hW) (n := 182) (by decide +kernel) rfl (h := 1446) (by decide +kernel) rfl rfl (by decide +kernel) (by decide) (Nat.le_of_ble_eq_true rfl) h1 h2 (fun r σ1 g1 => ?_)
  have hM1 := zPairM hM hW g1
  refine gW.al (n := 2) (i := 2) 1 (by decide +kernel) rfl rfl ?_
  refine gW.cI (k := 324) (a0 := 139) (as := []) (rest := [.int r]) (M_endingSet hM1 hW) (n := 185) (by decide +kernel) rfl (h := 2360) (by decide +kernel) rfl rfl (by decide +kernel) (by decide) (Nat.le_of_ble_eq_true rfl) h1 h2 (fun r' σ2 g2 => ?_)
  obtain ⟨e, hB'⟩ := zPairI hX hM hW g1 (fun _ => g2)
  exact gW.eq (off := 525) 1911 e (by decide +kernel) rfl (K _ hB')
