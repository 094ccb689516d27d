/-! the law: the last calls -/
theorem g_apart {E : qE} {b L : Nat} {xs : Nat → Int32} {nc ns i : Nat} {σ : qSg} (hB : zBoth σ) (hi : i + 5 < L) (hL : L ≤ 3072) (h1 : nc ≤ 600000) (h2 : ns ≤ 7302250) (K : ∀ σ', zBoth σ' → gW E b L xs nc ns 1911 [(3, .int (nI i)), (2, .ref (E.2.1 139)), (1, .ref (E.2.1 0)), (0, .ref b)] [] (qws E σ')) : gW E b L xs nc ns 1391 [(3, .int (nI i)), (2, .ref (E.2.1 139)), (1, .ref (E.2.1 0)), (0, .ref b)] [] (qws E σ) := by
  obtain ⟨A, hX, hM, hW⟩ := hB
  refine gW.al (n := 1) (i := 1) 2 (by decide +kernel) rfl rfl ?_
  refine gW.cI (k := 186) (a0 := 0) (as := []) (rest := []) (X_apart hX hW) (n := 186) (by decide +kernel) rfl (h := 1450) (by decide +kernel) rfl rfl (by decide +kernel) (by decide) (Nat.le_of_ble_eq_true rfl) h1 h2 (fun r σ1 g1 => ?_)
  have hM1 := zPairM hM hW g1
  refine gW.al (n := 2) (i := 2) 1 (by decide +kernel) rfl rfl ?_
  refine gW.cI (k := 326) (a0 := 139) (as := []) (rest := [.int r]) (M_apart hM1 hW) (n := 189) (by decide +kernel) rfl (h := 2364) (by decide +kernel) rfl rfl (by decide +kernel) (by decide) (Nat.le_of_ble_eq_true rfl) h1 h2 (fun r' σ2 g2 => ?_)
  obtain ⟨e, hB'⟩ := zPairI hX hM hW g1 (fun _ => g2)
  exact gW.eq (off := 512) 1911 e (by decide +kernel) rfl (K _ hB')
theorem g_apartSet {E : qE} {b L : Nat} {xs : Nat → Int32} {nc ns i : Nat} {σ : qSg} (hB : zBoth σ) (hi : i + 5 < L) (hL : L ≤ 3072) (h1 : nc ≤ 600000) (h2 : ns ≤ 7302250) (K : ∀ σ', zBoth σ' → gW E b L xs nc ns 1911 [(3, .int (nI i)), (2, .ref (E.2.1 139)), (1, .ref (E.2.1 0)), (0, .ref b)] [] (qws E σ')) : gW E b L xs nc ns 1404 [(3, .int (nI i)), (2, .ref (E.2.1 139)), (1, .ref (E.2.1 0)), (0, .ref b)] [] (qws E σ) := by
  obtain ⟨A, hX, hM, hW⟩ := hB
  refine gW.al (n := 1) (i := 1) 2 (by decide +kernel) rfl rfl ?_
  refine gW.cI (k := 187) (a0 := 0) (as := []) (rest := []) (X_apartSet hX hW) (n := 190) (by decide +kernel) rfl (h := 1461) (by decide +kernel) rfl rfl (by decide +kernel) (by decide) (Nat.le_of_ble_eq_true rfl) h1 h2 (fun r σ1 g1 => ?_)
  have hM1 := zPairM hM hW g1
  refine gW.al (n := 2) (i := 2) 1 (by decide +kernel) rfl rfl ?_
  refine gW.cI (k := 327) (a0 := 139) (as := []) (rest := [.int r]) (M_apartSet hM1 hW) (n := 193) (by decide +kernel) rfl (h := 2372) (by decide +kernel) rfl rfl (by decide +kernel) (by decide) (Nat.le_of_ble_eq_true rfl) h1 h2 (fun r' σ2 g2 => ?_)
  obtain ⟨e, hB'⟩ := zPairI hX hM hW g1 (fun _ => g2)
  exact gW.eq (off := 499) 1911 e (by decide +kernel) rfl (K _ hB')
theorem g_circle {E : qE} {b L : Nat} {xs : Nat → Int32} {nc ns i : Nat} {σ : qSg} (hB : zBoth σ) (hi : i + 5 < L) (hL : L ≤ 3072) (h1 : nc ≤ 600000) (h2 : ns ≤ 7302250) (K : ∀ σ', zBoth σ' → gW E b L xs nc ns 1911 [(3, .int (nI i)), (2, .ref (E.2.1 139)), (1, .ref (E.2.1 0)), (0, .ref b)] [] (qws E σ')) : gW E b L xs nc ns 1417 [(3, .int (nI i)), (2, .ref (E.2.1 139)), (1, .ref (E.2.1 0)), (0, .ref b)] [] (qws E σ) := by
  obtain ⟨A, hX, hM, hW⟩ := hB
  refine gW.al (n := 1) (i := 1) 2 (by decide +kernel) rfl rfl ?_
  refine gW.arg (i := i) (k := 1) (j3 := 0) (j0 := 3) rfl rfl (by omega) hL (by decide +kernel) (by decide +kernel) (by decide +kernel) (by decide +kernel) (by decide +kernel) ?_
  refine gW.cI (k := 188) (a0 := 0) (as := [qi (xs (i + 1))]) (rest := []) (X_circle hX hW (xs (i + 1))) (n := 194) (by decide +kernel) rfl (h := 1465) (by decide +kernel) rfl rfl (by decide +kernel) (by decide) (Nat.le_of_ble_eq_true rfl) h1 h2 (fun r σ1 g1 => ?_)
  have hM1 := zPairM hM hW g1
  refine gW.al (n := 2) (i := 2) 1 (by decide +kernel) rfl rfl ?_
  refine gW.arg (i := i) (k := 1) (j3 := 0) (j0 := 3) rfl rfl (by omega) hL (by decide +kernel) (by decide +kernel) (by decide +kernel) (by decide +kernel) (by decide +kernel) ?_
  refine gW.cI (k := 329) (a0 := 139) (as := [qi (xs (i + 1))]) (rest := [.int r]) (M_circle hM1 hW (xs (i + 1))) (n := 197) (by decide +kernel) rfl (h := 2376) (by decide +kernel) rfl rfl (by decide +kernel) (by decide) (Nat.le_of_ble_eq_true rfl) h1 h2 (fun r' σ2 g2 => ?_)
  obtain ⟨e, hB'⟩ := zPairI hX hM hW g1 (fun _ => g2)
  exact gW.eq (off := 476) 1911 e (by decide +kernel) rfl (K _ hB')
theorem g_circles {E : qE} {b L : Nat} {xs : Nat → Int32} {nc ns i : Nat} {σ : qSg} (hB : zBoth σ) (hi : i + 5 < L) (hL : L ≤ 3072) (h1 : nc ≤ 600000) (h2 : ns ≤ 7302250) (K : ∀ σ', zBoth σ' → gW E b L xs nc ns 1911 [(3, .int (nI i)), (2, .ref (E.2.1 139)), (1, .ref (E.2.1 0)), (0, .ref b)] [] (qws E σ')) : gW E b L xs nc ns 1440 [(3, .int (nI i)), (2, .ref (E.2.1 139)), (1, .ref (E.2.1 0)), (0, .ref b)] [] (qws E σ) := by
  obtain ⟨A, hX, hM, hW⟩ := hB
  refine gW.al (n := 1) (i := 1) 2 (by decide +kernel) rfl rfl ?_
  refine gW.cI (k := 189) (a0 := 0) (as := []) (rest := []) (X_circles hX hW) (n := 198) (by decide +kernel) rfl (h := 1472) (by decide +kernel) rfl rfl (by decide +kernel) (by decide) (Nat.le_of_ble_eq_true rfl) h1 h2 (fun r σ1 g1 => ?_)
  have hM1 := zPairM hM hW g1
  refine gW.al (n := 2) (i := 2) 1 (by decide +kernel) rfl rfl ?_
  refine gW.cI (k := 330) (a0 := 139) (as := []) (rest := [.int r]) (M_circles hM1 hW) (n := 201) (by decide +kernel) rfl (h := 2384) (by decide +kernel) rfl rfl (by decide +kernel) (by decide) (Nat.le_of_ble_eq_true rfl) h1 h2 (fun r' σ2 g2 => ?_)
  obtain ⟨e, hB'⟩ := zPairI hX hM hW g1 (fun _ => g2)
  exact gW.eq (off := 463) 1911 e (by decide +kernel) rfl (K _ hB')
theorem g_sides {E : qE} {b L : Nat} {xs : Nat → Int32} {nc ns i : Nat} {σ : qSg} (hB : zBoth σ) (hi : i + 5 < L) (hL : L ≤ 3072) (h1 : nc ≤ 600000) (h2 : ns ≤ 7302250) (K : ∀ σ', zBoth σ' → gW E b L xs nc ns 1911 [(3, .int (nI i)), (2, .ref (E.2.1 139)), (1, .ref (E.2.1 0)), (0, .ref b)] [] (qws E σ')) : gW E b L xs nc ns 1453 [(3, .int (nI i)), (2, .ref (E.2.1 139)), (1, .ref (E.2.1 0)), (0, .ref b)] [] (qws E σ) := by
  obtain ⟨A, hX, hM, hW⟩ := hB
  refine gW.al (n := 1) (i := 1) 2 (by decide +kernel) rfl rfl ?_
  refine gW.cI (k := 190) (a0 := 0) (as := []) (rest := []) (X_sides hX hW) (n := 202) (by decide +kernel) rfl (h := 1480) (by decide +kernel) rfl rfl (by decide +kernel) (by decide) (Nat.le_of_ble_eq_true rfl) h1 h2 (fun r σ1 g1 => ?_)
  have hM1 := zPairM hM hW g1
  refine gW.al (n := 2) (i := 2) 1 (by decide +kernel) rfl rfl ?_
  refine gW.cI (k := 332) (a0 := 139) (as := []) (rest := [.int r]) (M_sides hM1 hW) (n := 205) (by decide +kernel) rfl (h := 2388) (by decide +kernel) rfl rfl (by decide +kernel) (by decide) (Nat.le_of_ble_eq_true rfl) h1 h2 (fun r' σ2 g2 => ?_)
  obtain ⟨e, hB'⟩ := zPairI hX hM hW g1 (fun _ => g2)
  exact gW.eq (off := 450) 1911 e (by decide +kernel) rfl (K _ hB')
theorem g_fits {E : qE} {b L : Nat} {xs : Nat → Int32} {nc ns i : Nat} {σ : qSg} (hB : zBoth σ) (hi : i + 5 < L) (hL : L ≤ 3072) (h1 : nc ≤ 600000) (h2 : ns ≤ 7302250) (K : ∀ σ', zBoth σ' → gW E b L xs nc ns 1911 [(3, .int (nI i)), (2, .ref (E.2.1 139)), (1, .ref (E.2.1 0)), (0, .ref b)] [] (qws E σ')) : gW E b L xs nc ns 1466 [(3, .int (nI i)), (2, .ref (E.2.1 139)), (1, .ref (E.2.1 0)), (0, .ref b)] [] (qws E σ) := by
  obtain ⟨A, hX, hM, hW⟩ := hB
  refine gW.al (n := 1) (i := 1) 2 (by decide +kernel) rfl rfl ?_
  refine gW.arg (i := i) (k := 1) (j3 := 0) (j0 := 3) rfl rfl (by omega) hL (by decide +kernel) (by decide +kernel) (by decide +kernel) (by decide +kernel) (by decide +kernel) ?_
  refine gW.arg (i := i) (k := 2) (j3 := 0) (j0 := 3) rfl rfl (by omega) hL (by decide +kernel) (by decide +kernel) (by decide +kernel) (by decide +kernel) (by decide +kernel) ?_
  refine gW.arg (i := i) (k := 3) (j3 := 0) (j0 := 3) rfl rfl (by omega) hL (by decide +kernel) (by decide +kernel) (by decide +kernel) (by decide +kernel) (by decide +kernel) ?_
  refine gW.cI (k := 193) (a0 := 0) (as := [qi (xs (i + 1)), qi (xs (i + 2)), qi (xs (i + 3))]) (rest := []) (X_fits hX hW (xs (i + 1)) (xs (i + 2)) (xs (i + 3))) (n := 206) (by decide +kernel) rfl (h := 1490) (by decide +kernel) rfl rfl (by decide +kernel) (by decide) (Nat.le_of_ble_eq_true rfl) h1 h2 (fun r σ1 g1 => ?_)
  have hM1 := zPairM hM hW g1
  refine gW.al (n := 2) (i := 2) 1 (by decide +kernel) rfl rfl ?_
  refine gW.arg (i := i) (k := 1) (j3 := 0) (j0 := 3) rfl rfl (by omega) hL (by decide +kernel) (by decide +kernel) (by decide +kernel) (by decide +kernel) (by decide +kernel) ?_
  refine gW.arg (i := i) (k := 2) (j3 := 0) (j0 := 3) rfl rfl (by omega) hL (by decide +kernel) (by decide +kernel) (by decide +kernel) (by decide +kernel) (by decide +kernel) ?_
  refine gW.arg (i := i) (k := 3) (j3 := 0) (j0 := 3) rfl rfl (by omega) hL (by decide +kernel) (by decide +kernel) (by decide +kernel) (by decide +kernel) (by decide +kernel) ?_
  refine gW.cI (k := 336) (a0 := 139) (as := [qi (xs (i + 1)), qi (xs (i + 2)), qi (xs (i + 3))]) (rest := [.int r]) (M_fits hM1 hW (xs (i + 1)) (xs (i + 2)) (xs (i + 3))) (n := 209) (by decide +kernel) rfl (h := 2396) (by decide +kernel) rfl rfl (by decide +kernel) (by decide) (Nat.le_of_ble_eq_true rfl) h1 h2 (fun r' σ2 g2 => ?_)
  obtain ⟨e, hB'⟩ := zPairI hX hM hW g1 (fun _ => g2)
  exact gW.eq (off := 407) 1911 e (by decide +kernel) rfl (K _ hB')
theorem g_fitsAt {E : qE} {b L : Nat} {xs : Nat → Int32} {nc ns i : Nat} {σ : qSg} (hB : zBoth σ) (hi : i + 5 < L) (hL : L ≤ 3072) (h1 : nc ≤ 600000) (h2 : ns ≤ 7302250) (K : ∀ σ', zBoth σ' → gW E b L xs nc ns 1911 [(3, .int (nI i)), (2, .ref (E.2.1 139)), (1, .ref (E.2.1 0)), (0, .ref b)] [] (qws E σ')) : gW E b L xs nc ns 1509 [(3, .int (nI i)), (2, .ref (E.2.1 139)), (1, .ref (E.2.1 0)), (0, .ref b)] [] (qws E σ) := by
  obtain ⟨A, hX, hM, hW⟩ := hB
  refine gW.al (n := 1) (i := 1) 2 (by decide +kernel) rfl rfl ?_
  refine gW.arg (i := i) (k := 1) (j3 := 0) (j0 := 3) rfl rfl (by omega) hL (by decide +kernel) (by decide +kernel) (by decide +kernel) (by decide +kernel) (by decide +kernel) ?_
  refine gW.arg (i := i) (k := 2) (j3 := 0) (j0 := 3) rfl rfl (by omega) hL (by decide +kernel) (by decide +kernel) (by decide +kernel) (by decide +kernel) (by decide +kernel) ?_
  refine gW.arg (i := i) (k := 3) (j3 := 0) (j0 := 3) rfl rfl (by omega) hL (by decide +kernel) (by decide +kernel) (by decide +kernel) (by decide +kernel) (by decide +kernel) ?_
  refine gW.arg (i := i) (k := 4) (j3 := 0) (j0 := 3) rfl rfl (by omega) hL (by decide +kernel) (by decide +kernel) (by decide +kernel) (by decide +kernel) (by decide +kernel) ?_
  refine gW.cI (k := 194) (a0 := 0) (as := [qi (xs (i + 1)), qi (xs (i + 2)), qi (xs (i + 3)), qi (xs (i + 4))]) (rest := []) (X_fitsAt hX hW (xs (i + 1)) (xs (i + 2)) (xs (i + 3)) (xs (i + 4))) (n := 210) (by decide +kernel) rfl (h := 1539) (by decide +kernel) rfl rfl (by decide +kernel) (by decide) (Nat.le_of_ble_eq_true rfl) h1 h2 (fun r σ1 g1 => ?_)
  have hM1 := zPairM hM hW g1
  refine gW.al (n := 2) (i := 2) 1 (by decide +kernel) rfl rfl ?_
  refine gW.arg (i := i) (k := 1) (j3 := 0) (j0 := 3) rfl rfl (by omega) hL (by decide +kernel) (by decide +kernel) (by decide +kernel) (by decide +kernel) (by decide +kernel) ?_
  refine gW.arg (i := i) (k := 2) (j3 := 0) (j0 := 3) rfl rfl (by omega) hL (by decide +kernel) (by decide +kernel) (by decide +kernel) (by decide +kernel) (by decide +kernel) ?_
  refine gW.arg (i := i) (k := 3) (j3 := 0) (j0 := 3) rfl rfl (by omega) hL (by decide +kernel) (by decide +kernel) (by decide +kernel) (by decide +kernel) (by decide +kernel) ?_
  refine gW.arg (i := i) (k := 4) (j3 := 0) (j0 := 3) rfl rfl (by omega) hL (by decide +kernel) (by decide +kernel) (by decide +kernel) (by decide +kernel) (by decide +kernel) ?_
  refine gW.cI (k := 337) (a0 := 139) (as := [qi (xs (i + 1)), qi (xs (i + 2)), qi (xs (i + 3)), qi (xs (i + 4))]) (rest := [.int r]) (M_fitsAt hM1 hW (xs (i + 1)) (xs (i + 2)) (xs (i + 3)) (xs (i + 4))) (n := 214) (by decide +kernel) rfl (h := 2413) (by decide +kernel) rfl rfl (by decide +kernel) (by decide) (Nat.le_of_ble_eq_true rfl) h1 h2 (fun r' σ2 g2 => ?_)
  obtain ⟨e, hB'⟩ := zPairI hX hM hW g1 (fun _ => g2)
  exact gW.eq (off := 354) 1911 e (by decide +kernel) rfl (K _ hB')
theorem g_ask {E : qE} {b L : Nat} {xs : Nat → Int32} {nc ns i : Nat} {σ : qSg} (hB : zBoth σ) (hi : i + 5 < L) (hL : L ≤ 3072) (h1 : nc ≤ 600000) (h2 : ns ≤ 7302250) (K : ∀ σ', zBoth σ' → gW E b L xs nc ns 1911 [(3, .int (nI i)), (2, .ref (E.2.1 139)), (1, .ref (E.2.1 0)), (0, .ref b)] [] (qws E σ')) : gW E b L xs nc ns 1562 [(3, .int (nI i)), (2, .ref (E.2.1 139)), (1, .ref (E.2.1 0)), (0, .ref b)] [] (qws E σ) := by
  obtain ⟨A, hX, hM, hW⟩ := hB
  refine gW.al (n := 1) (i := 1) 2 (by decide +kernel) rfl rfl ?_
  refine gW.arg (i := i) (k := 1) (j3 := 0) (j0 := 3) rfl rfl (by omega) hL (by decide +kernel) (by decide +kernel) (by decide +kernel) (by decide +kernel) (by decide +kernel) ?_
  refine gW.arg (i := i) (k := 2) (j3 := 0) (j0 := 3) rfl rfl (by omega) hL (by decide +kernel) (by decide +kernel) (by decide +kernel) (by decide +kernel) (by decide +kernel) ?_
  refine gW.arg (i := i) (k := 3) (j3 := 0) (j0 := 3) rfl rfl (by omega) hL (by decide +kernel) (by decide +kernel) (by decide +kernel) (by decide +kernel) (by decide +kernel) ?_
  refine gW.cI (k := 195) (a0 := 0) (as := [qi (xs (i + 1)), qi (xs (i + 2)), qi (xs (i + 3))]) (rest := []) (X_ask hX hW (xs (i + 1)) (xs (i + 2)) (xs (i + 3))) (n := 215) (by decide +kernel) rfl (h := 1549) (by decide +kernel) rfl rfl (by decide +kernel) (by decide) (Nat.le_of_ble_eq_true rfl) h1 h2 (fun r σ1 g1 => ?_)
  have hM1 := zPairM hM hW g1
  refine gW.al (n := 2) (i := 2) 1 (by decide +kernel) rfl rfl ?_
  refine gW.arg (i := i) (k := 1) (j3 := 0) (j0 := 3) rfl rfl (by omega) hL (by decide +kernel) (by decide +kernel) (by decide +kernel) (by decide +kernel) (by decide +kernel) ?_
  refine gW.arg (i := i) (k := 2) (j3 := 0) (j0 := 3) rfl rfl (by omega) hL (by decide +kernel) (by decide +kernel) (by decide +kernel) (by decide +kernel) (by decide +kernel) ?_
  refine gW.arg (i := i) (k := 3) (j3 := 0) (j0 := 3) rfl rfl (by omega) hL (by decide +kernel) (by decide +kernel) (by decide +kernel) (by decide +kernel) (by decide +kernel) ?_
  refine gW.cI (k := 339) (a0 := 139) (as := [qi (xs (i + 1)), qi (xs (i + 2)), qi (xs (i + 3))]) (rest := [.int r]) (M_ask hM1 hW (xs (i + 1)) (xs (i + 2)) (xs (i + 3))) (n := 218) (by decide +kernel) rfl (h := 2417) (by decide +kernel) rfl rfl (by decide +kernel) (by decide) (Nat.le_of_ble_eq_true rfl) h1 h2 (fun r' σ2 g2 => ?_)
  obtain ⟨e, hB'⟩ := zPairI hX hM hW g1 (fun _ => g2)
  exact gW.eq (off := 311) 1911 e (by decide +kernel) rfl (K _ hB')
theorem g_rests {E : qE} {b L : Nat} {xs : Nat → Int32} {nc ns i : Nat} {σ : qSg} (hB : zBoth σ) (hi : i + 5 < L) (hL : L ≤ 3072) (h1 : nc ≤ 600000) (h2 : ns ≤ 7302250) (K : ∀ σ', zBoth σ' → gW E b L xs nc ns 1911 [(3, .int (nI i)), (2, .ref (E.2.1 139)), (1, .ref (E.2.1 0)), (0, .ref b)] [] (qws E σ')) : gW E b L xs nc ns 1605 [(3, .int (nI i)), (2, .ref (E.2.1 139)), (1, .ref (E.2.1 0)), (0, .ref b)] [] (qws E σ) := by
  obtain ⟨A, hX, hM, hW⟩ := hB
  refine gW.al (n := 1) (i := 1) 2 (by decide +kernel) rfl rfl ?_
  refine gW.arg (i := i) (k := 1) (j3 := 0) (j0 := 3) rfl rfl (by omega) hL (by decide +kernel) (by decide +kernel) (by decide +kernel) (by decide +kernel) (by decide +kernel) ?_
  refine gW.arg (i := i) (k := 2) (j3 := 0) (j0 := 3) rfl rfl (by omega) hL (by decide +kernel) (by decide +kernel) (by decide +kernel) (by decide +kernel) (by decide +kernel) ?_
  refine gW.cI (k := 196) (a0 := 0) (as := [qi (xs (i + 1)), qi (xs (i + 2))]) (rest := []) (X_rests hX hW (xs (i + 1)) (xs (i + 2))) (n := 219) (by decide +kernel) rfl (h := 1567) (by decide +kernel) rfl rfl (by decide +kernel) (by decide) (Nat.le_of_ble_eq_true rfl) h1 h2 (fun r σ1 g1 => ?_)
  have hM1 := zPairM hM hW g1
  refine gW.al (n := 2) (i := 2) 1 (by decide +kernel) rfl rfl ?_
  refine gW.arg (i := i) (k := 1) (j3 := 0) (j0 := 3) rfl rfl (by omega) hL (by decide +kernel) (by decide +kernel) (by decide +kernel) (by decide +kernel) (by decide +kernel) ?_
  refine gW.arg (i := i) (k := 2) (j3 := 0) (j0 := 3) rfl rfl (by omega) hL (by decide +kernel) (by decide +kernel) (by decide +kernel) (by decide +kernel) (by decide +kernel) ?_
  refine gW.cI (k := 343) (a0 := 139) (as := [qi (xs (i + 1)), qi (xs (i + 2))]) (rest := [.int r]) (M_rests hM1 hW (xs (i + 1)) (xs (i + 2))) (n := 222) (by decide +kernel) rfl (h := 2426) (by decide +kernel) rfl rfl (by decide +kernel) (by decide) (Nat.le_of_ble_eq_true rfl) h1 h2 (fun r' σ2 g2 => ?_)
  obtain ⟨e, hB'⟩ := zPairI hX hM hW g1 (fun _ => g2)
  exact gW.eq (off := 278) 1911 e (by decide +kernel) rfl (K _ hB')
theorem g_restAt {E : qE} {b L : Nat} {xs : Nat → Int32} {nc ns i : Nat} {σ : qSg} (hB : zBoth σ) (hi : i + 5 < L) (hL : L ≤ 3072) (h1 : nc ≤ 600000) (h2 : ns ≤ 7302250) (K : ∀ σ', zBoth σ' → gW E b L xs nc ns 1911 [(3, .int (nI i)), (2, .ref (E.2.1 139)), (1, .ref (E.2.1 0)), (0, .ref b)] [] (qws E σ')) : gW E b L xs nc ns 1638 [(3, .int (nI i)), (2, .ref (E.2.1 139)), (1, .ref (E.2.1 0)), (0, .ref b)] [] (qws E σ) := by
  obtain ⟨A, hX, hM, hW⟩ := hB
  refine gW.al (n := 1) (i := 1) 2 (by decide +kernel) rfl rfl ?_
  refine gW.arg (i := i) (k := 1) (j3 := 0) (j0 := 3) rfl rfl (by omega) hL (by decide +kernel) (by decide +kernel) (by decide +kernel) (by decide +kernel) (by decide +kernel) ?_
  refine gW.arg (i := i) (k := 2) (j3 := 0) (j0 := 3) rfl rfl (by omega) hL (by decide +kernel) (by decide +kernel) (by decide +kernel) (by decide +kernel) (by decide +kernel) ?_
  refine gW.arg (i := i) (k := 3) (j3 := 0) (j0 := 3) rfl rfl (by omega) hL (by decide +kernel) (by decide +kernel) (by decide +kernel) (by decide +kernel) (by decide +kernel) ?_
  refine gW.arg (i := i) (k := 4) (j3 := 0) (j0 := 3) rfl rfl (by omega) hL (by decide +kernel) (by decide +kernel) (by decide +kernel) (by decide +kernel) (by decide +kernel) ?_
  refine gW.cI (k := 197) (a0 := 0) (as := [qi (xs (i + 1)), qi (xs (i + 2)), qi (xs (i + 3)), qi (xs (i + 4))]) (rest := []) (X_restAt hX hW (xs (i + 1)) (xs (i + 2)) (xs (i + 3)) (xs (i + 4))) (n := 223) (by decide +kernel) rfl (h := 1580) (by decide +kernel) rfl rfl (by decide +kernel) (by decide) (Nat.le_of_ble_eq_true rfl) h1 h2 (fun r σ1 g1 => ?_)
  have hM1 := zPairM hM hW g1
  refine gW.al (n := 2) (i := 2) 1 (by decide +kernel) rfl rfl ?_
  refine gW.arg (i := i) (k := 1) (j3 := 0) (j0 := 3) rfl rfl (by omega) hL (by decide +kernel) (by decide +kernel) (by decide +kernel) (by decide +kernel) (by decide +kernel) ?_
  refine gW.arg (i := i) (k := 2) (j3 := 0) (j0 := 3) rfl rfl (by omega) hL (by decide +kernel) (by decide +kernel) (by decide +kernel) (by decide +kernel) (by decide +kernel) ?_
  refine gW.arg (i := i) (k := 3) (j3 := 0) (j0 := 3) rfl rfl (by omega) hL (by decide +kernel) (by decide +kernel) (by decide +kernel) (by decide +kernel) (by decide +kernel) ?_
  refine gW.arg (i := i) (k := 4) (j3 := 0) (j0 := 3) rfl rfl (by omega) hL (by decide +kernel) (by decide +kernel) (by decide +kernel) (by decide +kernel) (by decide +kernel) ?_
  refine gW.cI (k := 344) (a0 := 139) (as := [qi (xs (i + 1)), qi (xs (i + 2)), qi (xs (i + 3)), qi (xs (i + 4))]) (rest := [.int r]) (M_restAt hM1 hW (xs (i + 1)) (xs (i + 2)) (xs (i + 3)) (xs (i + 4))) (n := 226) (by decide +kernel) rfl (h := 2436) (by decide +kernel) rfl rfl (by decide +kernel) (by decide) (Nat.le_of_ble_eq_true rfl) h1 h2 (fun r' σ2 g2 => ?_)
  obtain ⟨e, hB'⟩ := zPairI hX hM hW g1 (fun _ => g2)
  exact gW.eq (off := 225) 1911 e (by decide +kernel) rfl (K _ hB')
theorem g_game {E : qE} {b L : Nat} {xs : Nat → Int32} {nc ns i : Nat} {σ : qSg} (hB : zBoth σ) (hi : i + 5 < L) (hL : L ≤ 3072) (h1 : nc ≤ 600000) (h2 : ns ≤ 7302250) (K : ∀ σ', zBoth σ' → gW E b L xs nc ns 1911 [(3, .int (nI i)), (2, .ref (E.2.1 139)), (1, .ref (E.2.1 0)), (0, .ref b)] [] (qws E σ')) : gW E b L xs nc ns 1691 [(3, .int (nI i)), (2, .ref (E.2.1 139)), (1, .ref (E.2.1 0)), (0, .ref b)] [] (qws E σ) := by
  obtain ⟨A, hX, hM, hW⟩ := hB
  refine gW.al (n := 1) (i := 1) 2 (by decide +kernel) rfl rfl ?_
  refine gW.arg (i := i) (k := 1) (j3 := 0) (j0 := 3) rfl rfl (by omega) hL (by decide +kernel) (by decide +kernel) (by decide +kernel) (by decide +kernel) (by decide +kernel) ?_
  refine gW.cI (k := 198) (a0 := 0) (as := [qi (xs (i + 1))]) (rest := []) (X_game hX hW (xs (i + 1))) (n := 227) (by decide +kernel) rfl (h := 1587) (by decide +kernel) rfl rfl (by decide +kernel) (by decide) (Nat.le_of_ble_eq_true rfl) h1 h2 (fun r σ1 g1 => ?_)
  have hM1 := zPairM hM hW g1
  refine gW.al (n := 2) (i := 2) 1 (by decide +kernel) rfl rfl ?_
  refine gW.arg (i := i) (k := 1) (j3 := 0) (j0 := 3) rfl rfl (by omega) hL (by decide +kernel) (by decide +kernel) (by decide +kernel) (by decide +kernel) (by decide +kernel) ?_
  refine gW.cI (k := 348) (a0 := 139) (as := [qi (xs (i + 1))]) (rest := [.int r]) (M_game hM1 hW (xs (i + 1))) (n := 230) (by decide +kernel) rfl (h := 2444) (by decide +kernel) rfl rfl (by decide +kernel) (by decide) (Nat.le_of_ble_eq_true rfl) h1 h2 (fun r' σ2 g2 => ?_)
  obtain ⟨e, hB'⟩ := zPairI hX hM hW g1 (fun _ => g2)
  exact gW.eq (off := 202) 1911 e (by decide +kernel) rfl (K _ hB')
theorem g_moveOf {E : qE} {b L : Nat} {xs : Nat → Int32} {nc ns i : Nat} {σ : qSg} (hB : zBoth σ) (hi : i + 5 < L) (hL : L ≤ 3072) (h1 : nc ≤ 600000) (h2 : ns ≤ 7302250) (K : ∀ σ', zBoth σ' → gW E b L xs nc ns 1911 [(3, .int (nI i)), (2, .ref (E.2.1 139)), (1, .ref (E.2.1 0)), (0, .ref b)] [] (qws E σ')) : gW E b L xs nc ns 1714 [(3, .int (nI i)), (2, .ref (E.2.1 139)), (1, .ref (E.2.1 0)), (0, .ref b)] [] (qws E σ) := by
  obtain ⟨A, hX, hM, hW⟩ := hB
  refine gW.al (n := 1) (i := 1) 2 (by decide +kernel) rfl rfl ?_
  refine gW.arg (i := i) (k := 1) (j3 := 0) (j0 := 3) rfl rfl (by omega) hL (by decide +kernel) (by decide +kernel) (by decide +kernel) (by decide +kernel) (by decide +kernel) ?_
  refine gW.cI (k := 199) (a0 := 0) (as := [qi (xs (i + 1))]) (rest := []) (X_moveOf hX hW (xs (i + 1))) (n := 231) (by decide +kernel) rfl (h := 1607) (by decide +kernel) rfl rfl (by decide +kernel) (by decide) (Nat.le_of_ble_eq_true rfl) h1 h2 (fun r σ1 g1 => ?_)
  have hM1 := zPairM hM hW g1
  refine gW.al (n := 2) (i := 2) 1 (by decide +kernel) rfl rfl ?_
  refine gW.arg (i := i) (k := 1) (j3 := 0) (j0 := 3) rfl rfl (by omega) hL (by decide +kernel) (by decide +kernel) (by decide +kernel) (by decide +kernel) (by decide +kernel) ?_
  refine gW.cI (k := 349) (a0 := 139) (as := [qi (xs (i + 1))]) (rest := [.int r]) (M_moveOf hM1 hW (xs (i + 1))) (n := 234) (by decide +kernel) rfl (h := 2464) (by decide +kernel) rfl rfl (by decide +kernel) (by decide) (Nat.le_of_ble_eq_true rfl) h1 h2 (fun r' σ2 g2 => ?_)
  obtain ⟨e, hB'⟩ := zPairI hX hM hW g1 (fun _ => g2)
  exact gW.eq (off := 179) 1911 e (by decide +kernel) rfl (K _ hB')
theorem g_night {E : qE} {b L : Nat} {xs : Nat → Int32} {nc ns i : Nat} {σ : qSg} (hB : zBoth σ) (hi : i + 5 < L) (hL : L ≤ 3072) (h1 : nc ≤ 600000) (h2 : ns ≤ 7302250) (K : ∀ σ', zBoth σ' → gW E b L xs nc ns 1911 [(3, .int (nI i)), (2, .ref (E.2.1 139)), (1, .ref (E.2.1 0)), (0, .ref b)] [] (qws E σ')) : gW E b L xs nc ns 1737 [(3, .int (nI i)), (2, .ref (E.2.1 139)), (1, .ref (E.2.1 0)), (0, .ref b)] [] (qws E σ) := by
  obtain ⟨A, hX, hM, hW⟩ := hB
  refine gW.al (n := 1) (i := 1) 2 (by decide +kernel) rfl rfl ?_
  refine gW.arg (i := i) (k := 1) (j3 := 0) (j0 := 3) rfl rfl (by omega) hL (by decide +kernel) (by decide +kernel) (by decide +kernel) (by decide +kernel) (by decide +kernel) ?_
  refine gW.cI (k := 200) (a0 := 0) (as := [qi (xs (i + 1))]) (rest := []) (X_night hX hW (xs (i + 1))) (n := 235) (by decide +kernel) rfl (h := 1615) (by decide +kernel) rfl rfl (by decide +kernel) (by decide) (Nat.le_of_ble_eq_true rfl) h1 h2 (fun r σ1 g1 => ?_)
  have hM1 := zPairM hM hW g1
  refine gW.al (n := 2) (i := 2) 1 (by decide +kernel) rfl rfl ?_
  refine gW.arg (i := i) (k := 1) (j3 := 0) (j0 := 3) rfl rfl (by omega) hL (by decide +kernel) (by decide +kernel) (by decide +kernel) (by decide +kernel) (by decide +kernel) ?_
  refine gW.cI (k := 350) (a0 := 139) (as := [qi (xs (i + 1))]) (rest := [.int r]) (M_night hM1 hW (xs (i + 1))) (n := 238) (by decide +kernel) rfl (h := 2468) (by decide +kernel) rfl rfl (by decide +kernel) (by decide) (Nat.le_of_ble_eq_true rfl) h1 h2 (fun r' σ2 g2 => ?_)
  obtain ⟨e, hB'⟩ := zPairI hX hM hW g1 (fun _ => g2)
  exact gW.eq (off := 156) 1911 e (by decide +kernel) rfl (K _ hB')
theorem g_wakes {E : qE} {b L : Nat} {xs : Nat → Int32} {nc ns i : Nat} {σ : qSg} (hB : zBoth σ) (hi : i + 5 < L) (hL : L ≤ 3072) (h1 : nc ≤ 600000) (h2 : ns ≤ 7302250) (K : ∀ σ', zBoth σ' → gW E b L xs nc ns 1911 [(3, .int (nI i)), (2, .ref (E.2.1 139)), (1, .ref (E.2.1 0)), (0, .ref b)] [] (qws E σ')) : gW E b L xs nc ns 1760 [(3, .int (nI i)), (2, .ref (E.2.1 139)), (1, .ref (E.2.1 0)), (0, .ref b)] [] (qws E σ) := by
  obtain ⟨A, hX, hM, hW⟩ := hB
  refine gW.al (n := 1) (i := 1) 2 (by decide +kernel) rfl rfl ?_
  refine gW.arg (i := i) (k := 1) (j3 := 0) (j0 := 3) rfl rfl (by omega) hL (by decide +kernel) (by decide +kernel) (by decide +kernel) (by decide +kernel) (by decide +kernel) ?_
  refine gW.cI (k := 201) (a0 := 0) (as := [qi (xs (i + 1))]) (rest := []) (X_wakes hX hW (xs (i + 1))) (n := 239) (by decide +kernel) rfl (h := 1634) (by decide +kernel) rfl rfl (by decide +kernel) (by decide) (Nat.le_of_ble_eq_true rfl) h1 h2 (fun r σ1 g1 => ?_)
  have hM1 := zPairM hM hW g1
  refine gW.al (n := 2) (i := 2) 1 (by decide +kernel) rfl rfl ?_
  refine gW.arg (i := i) (k := 1) (j3 := 0) (j0 := 3) rfl rfl (by omega) hL (by decide +kernel) (by decide +kernel) (by decide +kernel) (by decide +kernel) (by decide +kernel) ?_
  refine gW.cI (k := 351) (a0 := 139) (as := [qi (xs (i + 1))]) (rest := [.int r]) (M_wakes hM1 hW (xs (i + 1))) (n := 242) (by decide +kernel) rfl (h := 2477) (by decide +kernel) rfl rfl (by decide +kernel) (by decide) (Nat.le_of_ble_eq_true rfl) h1 h2 (fun r' σ2 g2 => ?_)
  obtain ⟨e, hB'⟩ := zPairI hX hM hW g1 (fun _ => g2)
  exact gW.eq (off := 133) 1911 e (by decide +kernel) rfl (K _ hB')
theorem g_copyYields {E : qE} {b L : Nat} {xs : Nat → Int32} {nc ns i : Nat} {σ : qSg} (hB : zBoth σ) (hi : i + 5 < L) (hL : L ≤ 3072) (h1 : nc ≤ 600000) (h2 : ns ≤ 7302250) (K : ∀ σ', zBoth σ' → gW E b L xs nc ns 1911 [(3, .int (nI i)), (2, .ref (E.2.1 139)), (1, .ref (E.2.1 0)), (0, .ref b)] [] (qws E σ')) : gW E b L xs nc ns 1783 [(3, .int (nI i)), (2, .ref (E.2.1 139)), (1, .ref (E.2.1 0)), (0, .ref b)] [] (qws E σ) := by
  obtain ⟨A, hX, hM, hW⟩ := hB
  refine gW.al (n := 1) (i := 1) 2 (by decide +kernel) rfl rfl ?_
  refine gW.arg (i := i) (k := 1) (j3 := 0) (j0 := 3) rfl rfl (by omega) hL (by decide +kernel) (by decide +kernel) (by decide +kernel) (by decide +kernel) (by decide +kernel) ?_
  refine gW.cI (k := 202) (a0 := 0) (as := [qi (xs (i + 1))]) (rest := []) (X_copyYields hX hW (xs (i + 1))) (n := 243) (by decide +kernel) rfl (h := 1638) (by decide +kernel) rfl rfl (by decide +kernel) (by decide) (Nat.le_of_ble_eq_true rfl) h1 h2 (fun r σ1 g1 => ?_)
  have hM1 := zPairM hM hW g1
  refine gW.al (n := 2) (i := 2) 1 (by decide +kernel) rfl rfl ?_
  refine gW.arg (i := i) (k := 1) (j3 := 0) (j0 := 3) rfl rfl (by omega) hL (by decide +kernel) (by decide +kernel) (by decide +kernel) (by decide +kernel) (by decide +kernel) ?_
  refine gW.cI (k := 352) (a0 := 139) (as := [qi (xs (i + 1))]) (rest := [.int r]) (M_copyYields hM1 hW (xs (i + 1))) (n := 246) (by decide +kernel) rfl (h := 2481) (by decide +kernel) rfl rfl (by decide +kernel) (by decide) (Nat.le_of_ble_eq_true rfl) h1 h2 (fun r' σ2 g2 => ?_)
  obtain ⟨e, hB'⟩ := zPairI hX hM hW g1 (fun _ => g2)
  exact gW.eq (off := 110) 1911 e (by decide +kernel) rfl (K _ hB')
theorem g_live {E : qE} {b L : Nat} {xs : Nat → Int32} {nc ns i : Nat} {σ : qSg} (hB : zBoth σ) (hi : i + 5 < L) (hL : L ≤ 3072) (h1 : nc ≤ 600000) (h2 : ns ≤ 7302250) (K : ∀ σ', zBoth σ' → gW E b L xs nc ns 1911 [(3, .int (nI i)), (2, .ref (E.2.1 139)), (1, .ref (E.2.1 0)), (0, .ref b)] [] (qws E σ')) : gW E b L xs nc ns 1806 [(3, .int (nI i)), (2, .ref (E.2.1 139)), (1, .ref (E.2.1 0)), (0, .ref b)] [] (qws E σ) := by
  obtain ⟨A, hX, hM, hW⟩ := hB
  refine gW.al (n := 1) (i := 1) 2 (by decide +kernel) rfl rfl ?_
  refine gW.arg (i := i) (k := 1) (j3 := 0) (j0 := 3) rfl rfl (by omega) hL (by decide +kernel) (by decide +kernel) (by decide +kernel) (by decide +kernel) (by decide +kernel) ?_
  refine gW.cI (k := 203) (a0 := 0) (as := [qi (xs (i + 1))]) (rest := []) (X_live hX hW (xs (i + 1))) (n := 247) (by decide +kernel) rfl (h := 1642) (by decide +kernel) rfl rfl (by decide +kernel) (by decide) (Nat.le_of_ble_eq_true rfl) h1 h2 (fun r σ1 g1 => ?_)
  have hM1 := zPairM hM hW g1
  refine gW.al (n := 2) (i := 2) 1 (by decide +kernel) rfl rfl ?_
  refine gW.arg (i := i) (k := 1) (j3 := 0) (j0 := 3) rfl rfl (by omega) hL (by decide +kernel) (by decide +kernel) (by decide +kernel) (by decide +kernel) (by decide +kernel) ?_
  refine gW.cI (k := 362) (a0 := 139) (as := [qi (xs (i + 1))]) (rest := [.int r]) (M_live hM1 hW (xs (i + 1))) (n := 250) (by decide +kernel) rfl (h := 2485) (by decide +kernel) rfl rfl (by decide +kernel) (by decide) (Nat.le_of_ble_eq_true rfl) h1 h2 (fun r' σ2 g2 => ?_)
  obtain ⟨e, hB'⟩ := zPairI hX hM hW g1 (fun _ => g2)
  exact gW.eq (off := 87) 1911 e (by decide +kernel) rfl (K _ hB')
theorem g_lived {E : qE} {b L : Nat} {xs : Nat → Int32} {nc ns i : Nat} {σ : qSg} (hB : zBoth σ) (hi : i + 5 < L) (hL : L ≤ 3072) (h1 : nc ≤ 600000) (h2 : ns ≤ 7302250) (K : ∀ σ', zBoth σ' → gW E b L xs nc ns 1911 [(3, .int (nI i)), (2, .ref (E.2.1 139)), (1, .ref (E.2.1 0)), (0, .ref b)] [] (qws E σ')) : gW E b L xs nc ns 1829 [(3, .int (nI i)), (2, .ref (E.2.1 139)), (1, .ref (E.2.1 0)), (0, .ref b)] [] (qws E σ) := by
  obtain ⟨A, hX, hM, hW⟩ := hB
  refine gW.al (n := 1) (i := 1) 2 (by decide +kernel) rfl rfl ?_
  refine gW.arg (i := i) (k := 1) (j3 := 0) (j0 := 3) rfl rfl (by omega) hL (by decide +kernel) (by decide +kernel) (by decide +kernel) (by decide +kernel) (by decide +kernel) ?_
  refine gW.cI (k := 204) (a0 := 0) (as := [qi (xs (i + 1))]) (rest := []) (X_lived hX hW (xs (i + 1))) (n := 251) (by decide +kernel) rfl (h := 1700) (by decide +kernel) rfl rfl (by decide +kernel) (by decide) (Nat.le_of_ble_eq_true rfl) h1 h2 (fun r σ1 g1 => ?_)
  have hM1 := zPairM hM hW g1
  refine gW.al (n := 2) (i := 2) 1 (by decide +kernel) rfl rfl ?_
  refine gW.arg (i := i) (k := 1) (j3 := 0) (j0 := 3) rfl rfl (by omega) hL (by decide +kernel) (by decide +kernel) (by decide +kernel) (by decide +kernel) (by decide +kernel) ?_
  refine gW.cI (k := 363) (a0 := 139) (as := [qi (xs (i + 1))]) (rest := [.int r]) (M_lived hM1 hW (xs (i + 1))) (n := 254) (by decide +kernel) rfl (h := 2527) (by decide +kernel) rfl rfl (by decide +kernel) (by decide) (Nat.le_of_ble_eq_true rfl) h1 h2 (fun r' σ2 g2 => ?_)
  obtain ⟨e, hB'⟩ := zPairI hX hM hW g1 (fun _ => g2)
  exact gW.eq (off := 64) 1911 e (by decide +kernel) rfl (K _ hB')
theorem g_mean {E : qE} {b L : Nat} {xs : Nat → Int32} {nc ns i : Nat} {σ : qSg} (hB : zBoth σ) (hi : i + 5 < L) (hL : L ≤ 3072) (h1 : nc ≤ 600000) (h2 : ns ≤ 7302250) (K : ∀ σ', zBoth σ' → gW E b L xs nc ns 1911 [(3, .int (nI i)), (2, .ref (E.2.1 139)), (1, .ref (E.2.1 0)), (0, .ref b)] [] (qws E σ')) : gW E b L xs nc ns 1852 [(3, .int (nI i)), (2, .ref (E.2.1 139)), (1, .ref (E.2.1 0)), (0, .ref b)] [] (qws E σ) := by
  obtain ⟨A, hX, hM, hW⟩ := hB
  refine gW.al (n := 1) (i := 1) 2 (by decide +kernel) rfl rfl ?_
  refine gW.arg (i := i) (k := 1) (j3 := 0) (j0 := 3) rfl rfl (by omega) hL (by decide +kernel) (by decide +kernel) (by decide +kernel) (by decide +kernel) (by decide +kernel) ?_
  refine gW.arg (i := i) (k := 2) (j3 := 0) (j0 := 3) rfl rfl (by omega) hL (by decide +kernel) (by decide +kernel) (by decide +kernel) (by decide +kernel) (by decide +kernel) ?_
  refine gW.cI (k := 205) (a0 := 0) (as := [qi (xs (i + 1)), qi (xs (i + 2))]) (rest := []) (X_mean hX hW (xs (i + 1)) (xs (i + 2))) (n := 255) (by decide +kernel) rfl (h := 1704) (by decide +kernel) rfl rfl (by decide +kernel) (by decide) (Nat.le_of_ble_eq_true rfl) h1 h2 (fun r σ1 g1 => ?_)
  have hM1 := zPairM hM hW g1
  refine gW.al (n := 2) (i := 2) 1 (by decide +kernel) rfl rfl ?_
  refine gW.arg (i := i) (k := 1) (j3 := 0) (j0 := 3) rfl rfl (by omega) hL (by decide +kernel) (by decide +kernel) (by decide +kernel) (by decide +kernel) (by decide +kernel) ?_
  refine gW.arg (i := i) (k := 2) (j3 := 0) (j0 := 3) rfl rfl (by omega) hL (by decide +kernel) (by decide +kernel) (by decide +kernel) (by decide +kernel) (by decide +kernel) ?_
  refine gW.cI (k := 364) (a0 := 139) (as := [qi (xs (i + 1)), qi (xs (i + 2))]) (rest := [.int r]) (M_mean hM1 hW (xs (i + 1)) (xs (i + 2))) (n := 259) (by decide +kernel) rfl (h := 2531) (by decide +kernel) rfl rfl (by decide +kernel) (by decide) (Nat.le_of_ble_eq_true rfl) h1 h2 (fun r' σ2 g2 => ?_)
  obtain ⟨e, hB'⟩ := zPairI hX hM hW g1 (fun _ => g2)
  exact gW.eq (off := 31) 1911 e (by decide +kernel) rfl (K _ hB')
theorem g_mark {E : qE} {b L : Nat} {xs : Nat → Int32} {nc ns i : Nat} {σ : qSg} (hB : zBoth σ) (hi : i + 5 < L) (hL : L ≤ 3072) (h1 : nc ≤ 600000) (h2 : ns ≤ 7302250) (K : ∀ σ', zBoth σ' → gW E b L xs nc ns 1911 [(3, .int (nI i)), (2, .ref (E.2.1 139)), (1, .ref (E.2.1 0)), (0, .ref b)] [] (qws E σ')) : gW E b L xs nc ns 1885 [(3, .int (nI i)), (2, .ref (E.2.1 139)), (1, .ref (E.2.1 0)), (0, .ref b)] [] (qws E σ) := by
  obtain ⟨A, hX, hM, hW⟩ := hB
  refine gW.al (n := 1) (i := 1) 2 (by decide +kernel) rfl rfl ?_
  refine gW.cI (k := 206) (a0 := 0) (as := []) (rest := []) (X_mark hX hW) (n := 260) (by decide +kernel) rfl (h := 1708) (by decide +kernel) rfl rfl (by decide +kernel) (by decide) (Nat.le_of_ble_eq_true rfl) h1 h2 (fun r σ1 g1 => ?_)
  have hM1 := zPairM hM hW g1
  refine gW.al (n := 2) (i := 2) 1 (by decide +kernel) rfl rfl ?_
  refine gW.cI (k := 366) (a0 := 139) (as := []) (rest := [.int r]) (M_mark hM1 hW) (n := 263) (by decide +kernel) rfl (h := 2535) (by decide +kernel) rfl rfl (by decide +kernel) (by decide) (Nat.le_of_ble_eq_true rfl) h1 h2 (fun r' σ2 g2 => ?_)
  obtain ⟨e, hB'⟩ := zPairI hX hM hW g1 (fun _ => g2)
  exact gW.eq (off := 18) 1911 e (by decide +kernel) rfl (K _ hB')
theorem g_undo {E : qE} {b L : Nat} {xs : Nat → Int32} {nc ns i : Nat} {σ : qSg} (hB : zBoth σ) (hi : i + 5 < L) (hL : L ≤ 3072) (h1 : nc ≤ 600000) (h2 : ns ≤ 7302250) (K : ∀ σ', zBoth σ' → gW E b L xs nc ns 1911 [(3, .int (nI i)), (2, .ref (E.2.1 139)), (1, .ref (E.2.1 0)), (0, .ref b)] [] (qws E σ')) : gW E b L xs nc ns 1898 [(3, .int (nI i)), (2, .ref (E.2.1 139)), (1, .ref (E.2.1 0)), (0, .ref b)] [] (qws E σ) := by
  obtain ⟨A, hX, hM, hW⟩ := hB
  refine gW.al (n := 1) (i := 1) 2 (by decide +kernel) rfl rfl ?_
  refine gW.cI (k := 207) (a0 := 0) (as := []) (rest := []) (X_undo hX hW) (n := 264) (by decide +kernel) rfl (h := 1712) (by decide +kernel) rfl rfl (by decide +kernel) (by decide) (Nat.le_of_ble_eq_true rfl) h1 h2 (fun r σ1 g1 => ?_)
  have hM1 := zPairM hM hW g1
  refine gW.al (n := 2) (i := 2) 1 (by decide +kernel) rfl rfl ?_
  refine gW.cI (k := 367) (a0 := 139) (as := []) (rest := [.int r]) (M_undo hM1 hW) (n := 267) (by decide +kernel) rfl (h := 2543) (by decide +kernel) rfl rfl (by decide +kernel) (by decide) (Nat.le_of_ble_eq_true rfl) h1 h2 (fun r' σ2 g2 => ?_)
  obtain ⟨e, hB'⟩ := zPairI hX hM hW g1 (fun _ => g2)
  exact gW.eq (off := 5) 1911 e (by decide +kernel) rfl (K _ hB')
