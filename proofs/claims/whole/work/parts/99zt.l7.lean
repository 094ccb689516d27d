/-! the law: each call on both sides, the same answer -/
theorem zPairL {σ : qSg} {A : zA} (hX : zXA σ A) (hM : zMA σ A) (hW : zAW A) {Y : Int64 × zA} {r r' : Int64} {σ1 σ2 : qSg} (h1 : zXCalL σ Y r σ1) (h2 : zMA σ1 A → zCallL σ1 Y r' σ2) : r = r' ∧ zBoth σ2 := by
  obtain ⟨e1, a1, f1, w1⟩ := h1
  obtain ⟨e2, a2, f2⟩ := h2 (hM.cls hW f1)
  exact ⟨e1.trans e2.symm, Y.2, a1.ref w1 f2, a2, w1⟩
theorem zPairN {σ : qSg} {A : zA} (hM : zMA σ A) (hW : zAW A) {Y : Int64 × zA} {r : Int64} {σ1 : qSg} (h1 : zXCalL σ Y r σ1) : zMA σ1 A := hM.cls hW h1.2.2.1
section GL
variable {E : qE} {b L : Nat} {xs : Nat → Int32} {nc ns pc : Nat} {lo : List (Nat × Value)} {st : List Value} {ws : va_W}
theorem gW.il2 {x : Int32} (hd : decode code pc = .ok (.i2l, 1)) (K : gW E b L xs nc ns (pc + 1) lo (.long x.toInt64 :: st) ws) : gW E b L xs nc ns pc lo (.int x :: st) ws := by
  intro p l e s m below meth c X H locs ls hP hD hS hL
  exact lv_i2l X.1.1 X.1.2.1 hd rfl (K p l e s m below meth c X H locs ls hP hD hS hL)
theorem gW.lsh {x : Int64} {y : Int32} (hd : decode code pc = .ok (.lshl, 1)) (K : gW E b L xs nc ns (pc + 1) lo (.long (x <<< (y.toInt64 &&& 63)) :: st) ws) : gW E b L xs nc ns pc lo (.int y :: .long x :: st) ws := by
  intro p l e s m below meth c X H locs ls hP hD hS hL
  exact lv_lshl X.1.1 X.1.2.1 hd rfl (K p l e s m below meth c X H locs ls hP hD hS hL)
theorem gW.lan {x y : Int64} (hd : decode code pc = .ok (.land, 1)) (K : gW E b L xs nc ns (pc + 1) lo (.long (x &&& y) :: st) ws) : gW E b L xs nc ns pc lo (.long y :: .long x :: st) ws := by
  intro p l e s m below meth c X H locs ls hP hD hS hL
  exact lv_land X.1.1 X.1.2.1 hd (K p l e s m below meth c X H locs ls hP hD hS hL)
theorem gW.lor {x y : Int64} (hd : decode code pc = .ok (.lor, 1)) (K : gW E b L xs nc ns (pc + 1) lo (.long (x ||| y) :: st) ws) : gW E b L xs nc ns pc lo (.long y :: .long x :: st) ws := by
  intro p l e s m below meth c X H locs ls hP hD hS hL
  exact lv_lor X.1.1 X.1.2.1 hd (K p l e s m below meth c X H locs ls hP hD hS hL)
theorem gW.ld2 {i h : Nat} {v : Int64} (hd : decode code pc = .ok (.ldc2_w i, 3)) (hw : qIs h (.constantLong R_law i v) = true) (K : gW E b L xs nc ns (pc + 3) lo (.long v :: st) ws) : gW E b L xs nc ns pc lo st ws := by
  intro p l e s m below meth c X H locs ls hP hD hS hL
  exact lv_ldc2 X.1.1 X.1.2.1 X.1.2.2.2.2.1 (gq X.1.2.2.2.2.2.1 _ (qIs_in hw)) hd (K p l e s m below meth c X H locs ls hP hD hS hL)
end GL
theorem g_status {E : qE} {b L : Nat} {xs : Nat → Int32} {nc ns i : Nat} {σ : qSg} (hB : zBoth σ) (hi : i + 5 < L) (hL : L ≤ 3072) (h1 : nc ≤ 600000) (h2 : ns ≤ 7302250) (K : ∀ σ', zBoth σ' → gW E b L xs nc ns 1911 [(3, .int (nI i)), (2, .ref (E.2.1 139)), (1, .ref (E.2.1 0)), (0, .ref b)] [] (qws E σ')) : gW E b L xs nc ns 288 [(3, .int (nI i)), (2, .ref (E.2.1 139)), (1, .ref (E.2.1 0)), (0, .ref b)] [] (qws E σ) := by
  obtain ⟨A, hX, hM, hW⟩ := hB
  refine gW.al (n := 1) (i := 1) 2 (by decide +kernel) rfl rfl ?_
  refine gW.cI (k := 144) (a0 := 0) (as := []) (rest := []) (X_status hX hW) (n := 13) (by decide +kernel) rfl (h := 816) (by decide +kernel) rfl rfl (by decide +kernel) (by decide) (Nat.le_of_ble_eq_true rfl) h1 h2 (fun r σ1 g1 => ?_)
  have hM1 := zPairM hM hW g1
  refine gW.al (n := 2) (i := 2) 1 (by decide +kernel) rfl rfl ?_
  refine gW.cI (k := 210) (a0 := 139) (as := []) (rest := [.int r]) (M_status hM1) (n := 17) (by decide +kernel) rfl (h := 1876) (by decide +kernel) rfl rfl (by decide +kernel) (by decide) (Nat.le_of_ble_eq_true rfl) h1 h2 (fun r' σ2 g2 => ?_)
  obtain ⟨e, hB'⟩ := zPairI hX hM hW g1 (fun _ => g2)
  exact gW.eq (off := 1615) 1911 e (by decide +kernel) rfl (K _ hB')
theorem g_top {E : qE} {b L : Nat} {xs : Nat → Int32} {nc ns i : Nat} {σ : qSg} (hB : zBoth σ) (hi : i + 5 < L) (hL : L ≤ 3072) (h1 : nc ≤ 600000) (h2 : ns ≤ 7302250) (K : ∀ σ', zBoth σ' → gW E b L xs nc ns 1911 [(3, .int (nI i)), (2, .ref (E.2.1 139)), (1, .ref (E.2.1 0)), (0, .ref b)] [] (qws E σ')) : gW E b L xs nc ns 301 [(3, .int (nI i)), (2, .ref (E.2.1 139)), (1, .ref (E.2.1 0)), (0, .ref b)] [] (qws E σ) := by
  obtain ⟨A, hX, hM, hW⟩ := hB
  refine gW.al (n := 1) (i := 1) 2 (by decide +kernel) rfl rfl ?_
  refine gW.cL (k := 145) (a0 := 0) (as := []) (rest := []) (X_top hX hW) (n := 18) (by decide +kernel) rfl (h := 820) (by decide +kernel) rfl rfl (by decide +kernel) (by decide) (Nat.le_of_ble_eq_true rfl) h1 h2 (fun r σ1 g1 => ?_)
  have hM1 := zPairN hM hW g1
  refine gW.al (n := 2) (i := 2) 1 (by decide +kernel) rfl rfl ?_
  refine gW.cL (k := 211) (a0 := 139) (as := []) (rest := [.long r]) (M_top hM1) (n := 22) (by decide +kernel) rfl (h := 1880) (by decide +kernel) rfl rfl (by decide +kernel) (by decide) (Nat.le_of_ble_eq_true rfl) h1 h2 (fun r' σ2 g2 => ?_)
  obtain ⟨e, hB'⟩ := zPairL hX hM hW g1 (fun _ => g2)
  exact gW.le (off := 1601) 1911 e (by decide +kernel) (by decide +kernel) rfl (K _ hB')
theorem g_bottom {E : qE} {b L : Nat} {xs : Nat → Int32} {nc ns i : Nat} {σ : qSg} (hB : zBoth σ) (hi : i + 5 < L) (hL : L ≤ 3072) (h1 : nc ≤ 600000) (h2 : ns ≤ 7302250) (K : ∀ σ', zBoth σ' → gW E b L xs nc ns 1911 [(3, .int (nI i)), (2, .ref (E.2.1 139)), (1, .ref (E.2.1 0)), (0, .ref b)] [] (qws E σ')) : gW E b L xs nc ns 315 [(3, .int (nI i)), (2, .ref (E.2.1 139)), (1, .ref (E.2.1 0)), (0, .ref b)] [] (qws E σ) := by
  obtain ⟨A, hX, hM, hW⟩ := hB
  refine gW.al (n := 1) (i := 1) 2 (by decide +kernel) rfl rfl ?_
  refine gW.cL (k := 146) (a0 := 0) (as := []) (rest := []) (X_bottom hX hW) (n := 23) (by decide +kernel) rfl (h := 824) (by decide +kernel) rfl rfl (by decide +kernel) (by decide) (Nat.le_of_ble_eq_true rfl) h1 h2 (fun r σ1 g1 => ?_)
  have hM1 := zPairN hM hW g1
  refine gW.al (n := 2) (i := 2) 1 (by decide +kernel) rfl rfl ?_
  refine gW.cL (k := 212) (a0 := 139) (as := []) (rest := [.long r]) (M_bottom hM1) (n := 26) (by decide +kernel) rfl (h := 1884) (by decide +kernel) rfl rfl (by decide +kernel) (by decide) (Nat.le_of_ble_eq_true rfl) h1 h2 (fun r' σ2 g2 => ?_)
  obtain ⟨e, hB'⟩ := zPairL hX hM hW g1 (fun _ => g2)
  exact gW.le (off := 1587) 1911 e (by decide +kernel) (by decide +kernel) rfl (K _ hB')
theorem g_tray {E : qE} {b L : Nat} {xs : Nat → Int32} {nc ns i : Nat} {σ : qSg} (hB : zBoth σ) (hi : i + 5 < L) (hL : L ≤ 3072) (h1 : nc ≤ 600000) (h2 : ns ≤ 7302250) (K : ∀ σ', zBoth σ' → gW E b L xs nc ns 1911 [(3, .int (nI i)), (2, .ref (E.2.1 139)), (1, .ref (E.2.1 0)), (0, .ref b)] [] (qws E σ')) : gW E b L xs nc ns 329 [(3, .int (nI i)), (2, .ref (E.2.1 139)), (1, .ref (E.2.1 0)), (0, .ref b)] [] (qws E σ) := by
  obtain ⟨A, hX, hM, hW⟩ := hB
  refine gW.al (n := 1) (i := 1) 2 (by decide +kernel) rfl rfl ?_
  refine gW.arg (i := i) (k := 1) (j3 := 0) (j0 := 3) rfl rfl (by omega) hL (by decide +kernel) (by decide +kernel) (by decide +kernel) (by decide +kernel) (by decide +kernel) ?_
  refine gW.arg (i := i) (k := 2) (j3 := 0) (j0 := 3) rfl rfl (by omega) hL (by decide +kernel) (by decide +kernel) (by decide +kernel) (by decide +kernel) (by decide +kernel) ?_
  refine gW.arg (i := i) (k := 3) (j3 := 0) (j0 := 3) rfl rfl (by omega) hL (by decide +kernel) (by decide +kernel) (by decide +kernel) (by decide +kernel) (by decide +kernel) ?_
  refine gW.cI (k := 147) (a0 := 0) (as := [qi (xs (i + 1)), qi (xs (i + 2)), qi (xs (i + 3))]) (rest := []) (X_tray hX hW (xs (i + 1)) (xs (i + 2)) (xs (i + 3))) (n := 27) (by decide +kernel) rfl (h := 828) (by decide +kernel) rfl rfl (by decide +kernel) (by decide) (Nat.le_of_ble_eq_true rfl) h1 h2 (fun r σ1 g1 => ?_)
  have hM1 := zPairM hM hW g1
  refine gW.al (n := 2) (i := 2) 1 (by decide +kernel) rfl rfl ?_
  refine gW.arg (i := i) (k := 1) (j3 := 0) (j0 := 3) rfl rfl (by omega) hL (by decide +kernel) (by decide +kernel) (by decide +kernel) (by decide +kernel) (by decide +kernel) ?_
  refine gW.arg (i := i) (k := 2) (j3 := 0) (j0 := 3) rfl rfl (by omega) hL (by decide +kernel) (by decide +kernel) (by decide +kernel) (by decide +kernel) (by decide +kernel) ?_
  refine gW.arg (i := i) (k := 3) (j3 := 0) (j0 := 3) rfl rfl (by omega) hL (by decide +kernel) (by decide +kernel) (by decide +kernel) (by decide +kernel) (by decide +kernel) ?_
  refine gW.cI (k := 220) (a0 := 139) (as := [qi (xs (i + 1)), qi (xs (i + 2)), qi (xs (i + 3))]) (rest := [.int r]) (M_tray hM1 hW (xs (i + 1)) (xs (i + 2)) (xs (i + 3))) (n := 31) (by decide +kernel) rfl (h := 1888) (by decide +kernel) rfl rfl (by decide +kernel) (by decide) (Nat.le_of_ble_eq_true rfl) h1 h2 (fun r' σ2 g2 => ?_)
  obtain ⟨e, hB'⟩ := zPairI hX hM hW g1 (fun _ => g2)
  exact gW.eq (off := 1544) 1911 e (by decide +kernel) rfl (K _ hB')
theorem g_write {E : qE} {b L : Nat} {xs : Nat → Int32} {nc ns i : Nat} {σ : qSg} (hB : zBoth σ) (hi : i + 5 < L) (hL : L ≤ 3072) (h1 : nc ≤ 600000) (h2 : ns ≤ 7302250) (K : ∀ σ', zBoth σ' → gW E b L xs nc ns 1911 [(3, .int (nI i)), (2, .ref (E.2.1 139)), (1, .ref (E.2.1 0)), (0, .ref b)] [] (qws E σ')) : gW E b L xs nc ns 372 [(3, .int (nI i)), (2, .ref (E.2.1 139)), (1, .ref (E.2.1 0)), (0, .ref b)] [] (qws E σ) := by
  obtain ⟨A, hX, hM, hW⟩ := hB
  refine gW.al (n := 1) (i := 1) 2 (by decide +kernel) rfl rfl ?_
  refine gW.arg (i := i) (k := 1) (j3 := 0) (j0 := 3) rfl rfl (by omega) hL (by decide +kernel) (by decide +kernel) (by decide +kernel) (by decide +kernel) (by decide +kernel) ?_
  refine gW.arg (i := i) (k := 2) (j3 := 0) (j0 := 3) rfl rfl (by omega) hL (by decide +kernel) (by decide +kernel) (by decide +kernel) (by decide +kernel) (by decide +kernel) ?_
  refine gW.arg (i := i) (k := 3) (j3 := 0) (j0 := 3) rfl rfl (by omega) hL (by decide +kernel) (by decide +kernel) (by decide +kernel) (by decide +kernel) (by decide +kernel) ?_
  refine gW.il2 (by decide +kernel) ?_
  refine gW.bp (n := 32) (nI 32) (by decide +kernel) (by decide +kernel) ?_
  refine gW.lsh (by decide +kernel) ?_
  refine gW.arg (i := i) (k := 4) (j3 := 0) (j0 := 3) rfl rfl (by omega) hL (by decide +kernel) (by decide +kernel) (by decide +kernel) (by decide +kernel) (by decide +kernel) ?_
  refine gW.il2 (by decide +kernel) ?_
  refine gW.ld2 (i := 32) (v := lN 4294967295) (by decide +kernel) (h := 2563) (by decide +kernel) ?_
  refine gW.lan (by decide +kernel) ?_
  refine gW.lor (by decide +kernel) ?_
  refine gW.cI (k := 149) (a0 := 0) (as := [qi (xs (i + 1)), qi (xs (i + 2)), ql (((xs (i + 3)).toInt64 <<< ((nI 32).toInt64 &&& 63)) ||| ((xs (i + 4)).toInt64 &&& (lN 4294967295)))]) (rest := []) (X_write hX hW (xs (i + 1)) (xs (i + 2)) (((xs (i + 3)).toInt64 <<< ((nI 32).toInt64 &&& 63)) ||| ((xs (i + 4)).toInt64 &&& (lN 4294967295)))) (n := 34) (by decide +kernel) rfl (h := 854) (by decide +kernel) rfl rfl (by decide +kernel) (by decide) (Nat.le_of_ble_eq_true rfl) h1 h2 (fun r σ1 g1 => ?_)
  have hM1 := zPairM hM hW g1
  refine gW.al (n := 2) (i := 2) 1 (by decide +kernel) rfl rfl ?_
  refine gW.arg (i := i) (k := 1) (j3 := 0) (j0 := 3) rfl rfl (by omega) hL (by decide +kernel) (by decide +kernel) (by decide +kernel) (by decide +kernel) (by decide +kernel) ?_
  refine gW.arg (i := i) (k := 2) (j3 := 0) (j0 := 3) rfl rfl (by omega) hL (by decide +kernel) (by decide +kernel) (by decide +kernel) (by decide +kernel) (by decide +kernel) ?_
  refine gW.arg (i := i) (k := 3) (j3 := 0) (j0 := 3) rfl rfl (by omega) hL (by decide +kernel) (by decide +kernel) (by decide +kernel) (by decide +kernel) (by decide +kernel) ?_
  refine gW.il2 (by decide +kernel) ?_
  refine gW.bp (n := 32) (nI 32) (by decide +kernel) (by decide +kernel) ?_
  refine gW.lsh (by decide +kernel) ?_
  refine gW.arg (i := i) (k := 4) (j3 := 0) (j0 := 3) rfl rfl (by omega) hL (by decide +kernel) (by decide +kernel) (by decide +kernel) (by decide +kernel) (by decide +kernel) ?_
  refine gW.il2 (by decide +kernel) ?_
  refine gW.ld2 (i := 32) (v := lN 4294967295) (by decide +kernel) (h := 2563) (by decide +kernel) ?_
  refine gW.lan (by decide +kernel) ?_
  refine gW.lor (by decide +kernel) ?_
  refine gW.cI (k := 222) (a0 := 139) (as := [qi (xs (i + 1)), qi (xs (i + 2)), ql (((xs (i + 3)).toInt64 <<< ((nI 32).toInt64 &&& 63)) ||| ((xs (i + 4)).toInt64 &&& (lN 4294967295)))]) (rest := [.int r]) (M_write hM1 hW (xs (i + 1)) (xs (i + 2)) (((xs (i + 3)).toInt64 <<< ((nI 32).toInt64 &&& 63)) ||| ((xs (i + 4)).toInt64 &&& (lN 4294967295)))) (n := 38) (by decide +kernel) rfl (h := 1899) (by decide +kernel) rfl rfl (by decide +kernel) (by decide) (Nat.le_of_ble_eq_true rfl) h1 h2 (fun r' σ2 g2 => ?_)
  obtain ⟨e, hB'⟩ := zPairI hX hM hW g1 (fun _ => g2)
  exact gW.eq (off := 1471) 1911 e (by decide +kernel) rfl (K _ hB')
theorem g_read {E : qE} {b L : Nat} {xs : Nat → Int32} {nc ns i : Nat} {σ : qSg} (hB : zBoth σ) (hi : i + 5 < L) (hL : L ≤ 3072) (h1 : nc ≤ 600000) (h2 : ns ≤ 7302250) (K : ∀ σ', zBoth σ' → gW E b L xs nc ns 1911 [(3, .int (nI i)), (2, .ref (E.2.1 139)), (1, .ref (E.2.1 0)), (0, .ref b)] [] (qws E σ')) : gW E b L xs nc ns 445 [(3, .int (nI i)), (2, .ref (E.2.1 139)), (1, .ref (E.2.1 0)), (0, .ref b)] [] (qws E σ) := by
  obtain ⟨A, hX, hM, hW⟩ := hB
  refine gW.al (n := 1) (i := 1) 2 (by decide +kernel) rfl rfl ?_
  refine gW.arg (i := i) (k := 1) (j3 := 0) (j0 := 3) rfl rfl (by omega) hL (by decide +kernel) (by decide +kernel) (by decide +kernel) (by decide +kernel) (by decide +kernel) ?_
  refine gW.arg (i := i) (k := 2) (j3 := 0) (j0 := 3) rfl rfl (by omega) hL (by decide +kernel) (by decide +kernel) (by decide +kernel) (by decide +kernel) (by decide +kernel) ?_
  refine gW.cL (k := 150) (a0 := 0) (as := [qi (xs (i + 1)), qi (xs (i + 2))]) (rest := []) (X_read hX hW (xs (i + 1)) (xs (i + 2))) (n := 39) (by decide +kernel) rfl (h := 879) (by decide +kernel) rfl rfl (by decide +kernel) (by decide) (Nat.le_of_ble_eq_true rfl) h1 h2 (fun r σ1 g1 => ?_)
  have hM1 := zPairN hM hW g1
  refine gW.al (n := 2) (i := 2) 1 (by decide +kernel) rfl rfl ?_
  refine gW.arg (i := i) (k := 1) (j3 := 0) (j0 := 3) rfl rfl (by omega) hL (by decide +kernel) (by decide +kernel) (by decide +kernel) (by decide +kernel) (by decide +kernel) ?_
  refine gW.arg (i := i) (k := 2) (j3 := 0) (j0 := 3) rfl rfl (by omega) hL (by decide +kernel) (by decide +kernel) (by decide +kernel) (by decide +kernel) (by decide +kernel) ?_
  refine gW.cL (k := 223) (a0 := 139) (as := [qi (xs (i + 1)), qi (xs (i + 2))]) (rest := [.long r]) (M_read hM1 hW (xs (i + 1)) (xs (i + 2))) (n := 43) (by decide +kernel) rfl (h := 1910) (by decide +kernel) rfl rfl (by decide +kernel) (by decide) (Nat.le_of_ble_eq_true rfl) h1 h2 (fun r' σ2 g2 => ?_)
  obtain ⟨e, hB'⟩ := zPairL hX hM hW g1 (fun _ => g2)
  exact gW.le (off := 1437) 1911 e (by decide +kernel) (by decide +kernel) rfl (K _ hB')
theorem g_pour {E : qE} {b L : Nat} {xs : Nat → Int32} {nc ns i : Nat} {σ : qSg} (hB : zBoth σ) (hi : i + 5 < L) (hL : L ≤ 3072) (h1 : nc ≤ 600000) (h2 : ns ≤ 7302250) (K : ∀ σ', zBoth σ' → gW E b L xs nc ns 1911 [(3, .int (nI i)), (2, .ref (E.2.1 139)), (1, .ref (E.2.1 0)), (0, .ref b)] [] (qws E σ')) : gW E b L xs nc ns 479 [(3, .int (nI i)), (2, .ref (E.2.1 139)), (1, .ref (E.2.1 0)), (0, .ref b)] [] (qws E σ) := by
  obtain ⟨A, hX, hM, hW⟩ := hB
  refine gW.al (n := 1) (i := 1) 2 (by decide +kernel) rfl rfl ?_
  refine gW.arg (i := i) (k := 1) (j3 := 0) (j0 := 3) rfl rfl (by omega) hL (by decide +kernel) (by decide +kernel) (by decide +kernel) (by decide +kernel) (by decide +kernel) ?_
  refine gW.arg (i := i) (k := 2) (j3 := 0) (j0 := 3) rfl rfl (by omega) hL (by decide +kernel) (by decide +kernel) (by decide +kernel) (by decide +kernel) (by decide +kernel) ?_
  refine gW.arg (i := i) (k := 3) (j3 := 0) (j0 := 3) rfl rfl (by omega) hL (by decide +kernel) (by decide +kernel) (by decide +kernel) (by decide +kernel) (by decide +kernel) ?_
  refine gW.arg (i := i) (k := 4) (j3 := 0) (j0 := 3) rfl rfl (by omega) hL (by decide +kernel) (by decide +kernel) (by decide +kernel) (by decide +kernel) (by decide +kernel) ?_
  refine gW.arg (i := i) (k := 5) (j3 := 0) (j0 := 3) rfl rfl (by omega) hL (by decide +kernel) (by decide +kernel) (by decide +kernel) (by decide +kernel) (by decide +kernel) ?_
  refine gW.cI (k := 151) (a0 := 0) (as := [qi (xs (i + 1)), qi (xs (i + 2)), qi (xs (i + 3)), qi (xs (i + 4)), qi (xs (i + 5))]) (rest := []) (X_pour hX hW (xs (i + 1)) (xs (i + 2)) (xs (i + 3)) (xs (i + 4)) (xs (i + 5))) (n := 44) (by decide +kernel) rfl (h := 892) (by decide +kernel) rfl rfl (by decide +kernel) (by decide) (Nat.le_of_ble_eq_true rfl) h1 h2 (fun r σ1 g1 => ?_)
  have hM1 := zPairM hM hW g1
  refine gW.al (n := 2) (i := 2) 1 (by decide +kernel) rfl rfl ?_
  refine gW.arg (i := i) (k := 1) (j3 := 0) (j0 := 3) rfl rfl (by omega) hL (by decide +kernel) (by decide +kernel) (by decide +kernel) (by decide +kernel) (by decide +kernel) ?_
  refine gW.arg (i := i) (k := 2) (j3 := 0) (j0 := 3) rfl rfl (by omega) hL (by decide +kernel) (by decide +kernel) (by decide +kernel) (by decide +kernel) (by decide +kernel) ?_
  refine gW.arg (i := i) (k := 3) (j3 := 0) (j0 := 3) rfl rfl (by omega) hL (by decide +kernel) (by decide +kernel) (by decide +kernel) (by decide +kernel) (by decide +kernel) ?_
  refine gW.arg (i := i) (k := 4) (j3 := 0) (j0 := 3) rfl rfl (by omega) hL (by decide +kernel) (by decide +kernel) (by decide +kernel) (by decide +kernel) (by decide +kernel) ?_
  refine gW.arg (i := i) (k := 5) (j3 := 0) (j0 := 3) rfl rfl (by omega) hL (by decide +kernel) (by decide +kernel) (by decide +kernel) (by decide +kernel) (by decide +kernel) ?_
  refine gW.cI (k := 224) (a0 := 139) (as := [qi (xs (i + 1)), qi (xs (i + 2)), qi (xs (i + 3)), qi (xs (i + 4)), qi (xs (i + 5))]) (rest := [.int r]) (M_pour hM1 hW (xs (i + 1)) (xs (i + 2)) (xs (i + 3)) (xs (i + 4)) (xs (i + 5))) (n := 48) (by decide +kernel) rfl (h := 1915) (by decide +kernel) rfl rfl (by decide +kernel) (by decide) (Nat.le_of_ble_eq_true rfl) h1 h2 (fun r' σ2 g2 => ?_)
  obtain ⟨e, hB'⟩ := zPairI hX hM hW g1 (fun _ => g2)
  exact gW.eq (off := 1374) 1911 e (by decide +kernel) rfl (K _ hB')
theorem g_feed {E : qE} {b L : Nat} {xs : Nat → Int32} {nc ns i : Nat} {σ : qSg} (hB : zBoth σ) (hi : i + 5 < L) (hL : L ≤ 3072) (h1 : nc ≤ 600000) (h2 : ns ≤ 7302250) (K : ∀ σ', zBoth σ' → gW E b L xs nc ns 1911 [(3, .int (nI i)), (2, .ref (E.2.1 139)), (1, .ref (E.2.1 0)), (0, .ref b)] [] (qws E σ')) : gW E b L xs nc ns 542 [(3, .int (nI i)), (2, .ref (E.2.1 139)), (1, .ref (E.2.1 0)), (0, .ref b)] [] (qws E σ) := by
  obtain ⟨A, hX, hM, hW⟩ := hB
  refine gW.al (n := 1) (i := 1) 2 (by decide +kernel) rfl rfl ?_
  refine gW.arg (i := i) (k := 1) (j3 := 0) (j0 := 3) rfl rfl (by omega) hL (by decide +kernel) (by decide +kernel) (by decide +kernel) (by decide +kernel) (by decide +kernel) ?_
  refine gW.arg (i := i) (k := 2) (j3 := 0) (j0 := 3) rfl rfl (by omega) hL (by decide +kernel) (by decide +kernel) (by decide +kernel) (by decide +kernel) (by decide +kernel) ?_
  refine gW.arg (i := i) (k := 3) (j3 := 0) (j0 := 3) rfl rfl (by omega) hL (by decide +kernel) (by decide +kernel) (by decide +kernel) (by decide +kernel) (by decide +kernel) ?_
  refine gW.arg (i := i) (k := 4) (j3 := 0) (j0 := 3) rfl rfl (by omega) hL (by decide +kernel) (by decide +kernel) (by decide +kernel) (by decide +kernel) (by decide +kernel) ?_
  refine gW.arg (i := i) (k := 5) (j3 := 0) (j0 := 3) rfl rfl (by omega) hL (by decide +kernel) (by decide +kernel) (by decide +kernel) (by decide +kernel) (by decide +kernel) ?_
  refine gW.cI (k := 152) (a0 := 0) (as := [qi (xs (i + 1)), qi (xs (i + 2)), qi (xs (i + 3)), qi (xs (i + 4)), qi (xs (i + 5))]) (rest := []) (X_feed hX hW (xs (i + 1)) (xs (i + 2)) (xs (i + 3)) (xs (i + 4)) (xs (i + 5))) (n := 49) (by decide +kernel) rfl (h := 912) (by decide +kernel) rfl rfl (by decide +kernel) (by decide) (Nat.le_of_ble_eq_true rfl) h1 h2 (fun r σ1 g1 => ?_)
  have hM1 := zPairM hM hW g1
  refine gW.al (n := 2) (i := 2) 1 (by decide +kernel) rfl rfl ?_
  refine gW.arg (i := i) (k := 1) (j3 := 0) (j0 := 3) rfl rfl (by omega) hL (by decide +kernel) (by decide +kernel) (by decide +kernel) (by decide +kernel) (by decide +kernel) ?_
  refine gW.arg (i := i) (k := 2) (j3 := 0) (j0 := 3) rfl rfl (by omega) hL (by decide +kernel) (by decide +kernel) (by decide +kernel) (by decide +kernel) (by decide +kernel) ?_
  refine gW.arg (i := i) (k := 3) (j3 := 0) (j0 := 3) rfl rfl (by omega) hL (by decide +kernel) (by decide +kernel) (by decide +kernel) (by decide +kernel) (by decide +kernel) ?_
  refine gW.arg (i := i) (k := 4) (j3 := 0) (j0 := 3) rfl rfl (by omega) hL (by decide +kernel) (by decide +kernel) (by decide +kernel) (by decide +kernel) (by decide +kernel) ?_
  refine gW.arg (i := i) (k := 5) (j3 := 0) (j0 := 3) rfl rfl (by omega) hL (by decide +kernel) (by decide +kernel) (by decide +kernel) (by decide +kernel) (by decide +kernel) ?_
  refine gW.cI (k := 226) (a0 := 139) (as := [qi (xs (i + 1)), qi (xs (i + 2)), qi (xs (i + 3)), qi (xs (i + 4)), qi (xs (i + 5))]) (rest := [.int r]) (M_feed hM1 hW (xs (i + 1)) (xs (i + 2)) (xs (i + 3)) (xs (i + 4)) (xs (i + 5))) (n := 53) (by decide +kernel) rfl (h := 1919) (by decide +kernel) rfl rfl (by decide +kernel) (by decide) (Nat.le_of_ble_eq_true rfl) h1 h2 (fun r' σ2 g2 => ?_)
  obtain ⟨e, hB'⟩ := zPairI hX hM hW g1 (fun _ => g2)
  exact gW.eq (off := 1311) 1911 e (by decide +kernel) rfl (K _ hB')
theorem g_camp {E : qE} {b L : Nat} {xs : Nat → Int32} {nc ns i : Nat} {σ : qSg} (hB : zBoth σ) (hi : i + 5 < L) (hL : L ≤ 3072) (h1 : nc ≤ 600000) (h2 : ns ≤ 7302250) (K : ∀ σ', zBoth σ' → gW E b L xs nc ns 1911 [(3, .int (nI i)), (2, .ref (E.2.1 139)), (1, .ref (E.2.1 0)), (0, .ref b)] [] (qws E σ')) : gW E b L xs nc ns 605 [(3, .int (nI i)), (2, .ref (E.2.1 139)), (1, .ref (E.2.1 0)), (0, .ref b)] [] (qws E σ) := by
  obtain ⟨A, hX, hM, hW⟩ := hB
  refine gW.al (n := 1) (i := 1) 2 (by decide +kernel) rfl rfl ?_
  refine gW.arg (i := i) (k := 1) (j3 := 0) (j0 := 3) rfl rfl (by omega) hL (by decide +kernel) (by decide +kernel) (by decide +kernel) (by decide +kernel) (by decide +kernel) ?_
  refine gW.cI (k := 153) (a0 := 0) (as := [qi (xs (i + 1))]) (rest := []) (X_camp hX hW (xs (i + 1))) (n := 54) (by decide +kernel) rfl (h := 924) (by decide +kernel) rfl rfl (by decide +kernel) (by decide) (Nat.le_of_ble_eq_true rfl) h1 h2 (fun r σ1 g1 => ?_)
  have hM1 := zPairM hM hW g1
  refine gW.al (n := 2) (i := 2) 1 (by decide +kernel) rfl rfl ?_
  refine gW.arg (i := i) (k := 1) (j3 := 0) (j0 := 3) rfl rfl (by omega) hL (by decide +kernel) (by decide +kernel) (by decide +kernel) (by decide +kernel) (by decide +kernel) ?_
  refine gW.cI (k := 252) (a0 := 139) (as := [qi (xs (i + 1))]) (rest := [.int r]) (M_camp hM1 hW (xs (i + 1))) (n := 58) (by decide +kernel) rfl (h := 1931) (by decide +kernel) rfl rfl (by decide +kernel) (by decide) (Nat.le_of_ble_eq_true rfl) h1 h2 (fun r' σ2 g2 => ?_)
  obtain ⟨e, hB'⟩ := zPairI hX hM hW g1 (fun _ => g2)
  exact gW.eq (off := 1288) 1911 e (by decide +kernel) rfl (K _ hB')
theorem g_weeks {E : qE} {b L : Nat} {xs : Nat → Int32} {nc ns i : Nat} {σ : qSg} (hB : zBoth σ) (hi : i + 5 < L) (hL : L ≤ 3072) (h1 : nc ≤ 600000) (h2 : ns ≤ 7302250) (K : ∀ σ', zBoth σ' → gW E b L xs nc ns 1911 [(3, .int (nI i)), (2, .ref (E.2.1 139)), (1, .ref (E.2.1 0)), (0, .ref b)] [] (qws E σ')) : gW E b L xs nc ns 628 [(3, .int (nI i)), (2, .ref (E.2.1 139)), (1, .ref (E.2.1 0)), (0, .ref b)] [] (qws E σ) := by
  obtain ⟨A, hX, hM, hW⟩ := hB
  refine gW.al (n := 1) (i := 1) 2 (by decide +kernel) rfl rfl ?_
  refine gW.arg (i := i) (k := 1) (j3 := 0) (j0 := 3) rfl rfl (by omega) hL (by decide +kernel) (by decide +kernel) (by decide +kernel) (by decide +kernel) (by decide +kernel) ?_
  refine gW.cI (k := 154) (a0 := 0) (as := [qi (xs (i + 1))]) (rest := []) (X_weeks hX hW (xs (i + 1))) (n := 59) (by decide +kernel) rfl (h := 1083) (by decide +kernel) rfl rfl (by decide +kernel) (by decide) (Nat.le_of_ble_eq_true rfl) h1 h2 (fun r σ1 g1 => ?_)
  have hM1 := zPairM hM hW g1
  refine gW.al (n := 2) (i := 2) 1 (by decide +kernel) rfl rfl ?_
  refine gW.arg (i := i) (k := 1) (j3 := 0) (j0 := 3) rfl rfl (by omega) hL (by decide +kernel) (by decide +kernel) (by decide +kernel) (by decide +kernel) (by decide +kernel) ?_
  refine gW.cI (k := 258) (a0 := 139) (as := [qi (xs (i + 1))]) (rest := [.int r]) (M_weeks hM1 hW (xs (i + 1))) (n := 62) (by decide +kernel) rfl (h := 2052) (by decide +kernel) rfl rfl (by decide +kernel) (by decide) (Nat.le_of_ble_eq_true rfl) h1 h2 (fun r' σ2 g2 => ?_)
  obtain ⟨e, hB'⟩ := zPairI hX hM hW g1 (fun _ => g2)
  exact gW.eq (off := 1265) 1911 e (by decide +kernel) rfl (K _ hB')
theorem g_fault {E : qE} {b L : Nat} {xs : Nat → Int32} {nc ns i : Nat} {σ : qSg} (hB : zBoth σ) (hi : i + 5 < L) (hL : L ≤ 3072) (h1 : nc ≤ 600000) (h2 : ns ≤ 7302250) (K : ∀ σ', zBoth σ' → gW E b L xs nc ns 1911 [(3, .int (nI i)), (2, .ref (E.2.1 139)), (1, .ref (E.2.1 0)), (0, .ref b)] [] (qws E σ')) : gW E b L xs nc ns 651 [(3, .int (nI i)), (2, .ref (E.2.1 139)), (1, .ref (E.2.1 0)), (0, .ref b)] [] (qws E σ) := by
  obtain ⟨A, hX, hM, hW⟩ := hB
  refine gW.al (n := 1) (i := 1) 2 (by decide +kernel) rfl rfl ?_
  refine gW.arg (i := i) (k := 1) (j3 := 0) (j0 := 3) rfl rfl (by omega) hL (by decide +kernel) (by decide +kernel) (by decide +kernel) (by decide +kernel) (by decide +kernel) ?_
  refine gW.cI (k := 155) (a0 := 0) (as := [qi (xs (i + 1))]) (rest := []) (X_fault hX hW (xs (i + 1))) (n := 63) (by decide +kernel) rfl (h := 1160) (by decide +kernel) rfl rfl (by decide +kernel) (by decide) (Nat.le_of_ble_eq_true rfl) h1 h2 (fun r σ1 g1 => ?_)
  have hM1 := zPairM hM hW g1
  refine gW.al (n := 2) (i := 2) 1 (by decide +kernel) rfl rfl ?_
  refine gW.arg (i := i) (k := 1) (j3 := 0) (j0 := 3) rfl rfl (by omega) hL (by decide +kernel) (by decide +kernel) (by decide +kernel) (by decide +kernel) (by decide +kernel) ?_
  refine gW.cI (k := 242) (a0 := 139) (as := [qi (xs (i + 1))]) (rest := [.int r]) (M_fault hM1 (xs (i + 1))) (n := 66) (by decide +kernel) rfl (h := 1927) (by decide +kernel) rfl rfl (by decide +kernel) (by decide) (Nat.le_of_ble_eq_true rfl) h1 h2 (fun r' σ2 g2 => ?_)
  obtain ⟨e, hB'⟩ := zPairI hX hM hW g1 (fun _ => g2)
  exact gW.eq (off := 1242) 1911 e (by decide +kernel) rfl (K _ hB')
theorem g_told {E : qE} {b L : Nat} {xs : Nat → Int32} {nc ns i : Nat} {σ : qSg} (hB : zBoth σ) (hi : i + 5 < L) (hL : L ≤ 3072) (h1 : nc ≤ 600000) (h2 : ns ≤ 7302250) (K : ∀ σ', zBoth σ' → gW E b L xs nc ns 1911 [(3, .int (nI i)), (2, .ref (E.2.1 139)), (1, .ref (E.2.1 0)), (0, .ref b)] [] (qws E σ')) : gW E b L xs nc ns 674 [(3, .int (nI i)), (2, .ref (E.2.1 139)), (1, .ref (E.2.1 0)), (0, .ref b)] [] (qws E σ) := by
  obtain ⟨A, hX, hM, hW⟩ := hB
  refine gW.al (n := 1) (i := 1) 2 (by decide +kernel) rfl rfl ?_
  refine gW.arg (i := i) (k := 1) (j3 := 0) (j0 := 3) rfl rfl (by omega) hL (by decide +kernel) (by decide +kernel) (by decide +kernel) (by decide +kernel) (by decide +kernel) ?_
  refine gW.cI (k := 156) (a0 := 0) (as := [qi (xs (i + 1))]) (rest := []) (X_told hX hW (xs (i + 1))) (n := 67) (by decide +kernel) rfl (h := 1164) (by decide +kernel) rfl rfl (by decide +kernel) (by decide) (Nat.le_of_ble_eq_true rfl) h1 h2 (fun r σ1 g1 => ?_)
  have hM1 := zPairM hM hW g1
  refine gW.al (n := 2) (i := 2) 1 (by decide +kernel) rfl rfl ?_
  refine gW.arg (i := i) (k := 1) (j3 := 0) (j0 := 3) rfl rfl (by omega) hL (by decide +kernel) (by decide +kernel) (by decide +kernel) (by decide +kernel) (by decide +kernel) ?_
  refine gW.cI (k := 276) (a0 := 139) (as := [qi (xs (i + 1))]) (rest := [.int r]) (M_told hM1 hW (xs (i + 1))) (n := 70) (by decide +kernel) rfl (h := 2076) (by decide +kernel) rfl rfl (by decide +kernel) (by decide) (Nat.le_of_ble_eq_true rfl) h1 h2 (fun r' σ2 g2 => ?_)
  obtain ⟨e, hB'⟩ := zPairI hX hM hW g1 (fun _ => g2)
  exact gW.eq (off := 1219) 1911 e (by decide +kernel) rfl (K _ hB')
theorem g_boy {E : qE} {b L : Nat} {xs : Nat → Int32} {nc ns i : Nat} {σ : qSg} (hB : zBoth σ) (hi : i + 5 < L) (hL : L ≤ 3072) (h1 : nc ≤ 600000) (h2 : ns ≤ 7302250) (K : ∀ σ', zBoth σ' → gW E b L xs nc ns 1911 [(3, .int (nI i)), (2, .ref (E.2.1 139)), (1, .ref (E.2.1 0)), (0, .ref b)] [] (qws E σ')) : gW E b L xs nc ns 697 [(3, .int (nI i)), (2, .ref (E.2.1 139)), (1, .ref (E.2.1 0)), (0, .ref b)] [] (qws E σ) := by
  obtain ⟨A, hX, hM, hW⟩ := hB
  refine gW.al (n := 1) (i := 1) 2 (by decide +kernel) rfl rfl ?_
  refine gW.arg (i := i) (k := 1) (j3 := 0) (j0 := 3) rfl rfl (by omega) hL (by decide +kernel) (by decide +kernel) (by decide +kernel) (by decide +kernel) (by decide +kernel) ?_
  refine gW.arg (i := i) (k := 2) (j3 := 0) (j0 := 3) rfl rfl (by omega) hL (by decide +kernel) (by decide +kernel) (by decide +kernel) (by decide +kernel) (by decide +kernel) ?_
  refine gW.cI (k := 157) (a0 := 0) (as := [qi (xs (i + 1)), qi (xs (i + 2))]) (rest := []) (X_boy hX hW (xs (i + 1)) (xs (i + 2))) (n := 71) (by decide +kernel) rfl (h := 1180) (by decide +kernel) rfl rfl (by decide +kernel) (by decide) (Nat.le_of_ble_eq_true rfl) h1 h2 (fun r σ1 g1 => ?_)
  have hM1 := zPairM hM hW g1
  refine gW.al (n := 2) (i := 2) 1 (by decide +kernel) rfl rfl ?_
  refine gW.arg (i := i) (k := 1) (j3 := 0) (j0 := 3) rfl rfl (by omega) hL (by decide +kernel) (by decide +kernel) (by decide +kernel) (by decide +kernel) (by decide +kernel) ?_
  refine gW.arg (i := i) (k := 2) (j3 := 0) (j0 := 3) rfl rfl (by omega) hL (by decide +kernel) (by decide +kernel) (by decide +kernel) (by decide +kernel) (by decide +kernel) ?_
  refine gW.cI (k := 277) (a0 := 139) (as := [qi (xs (i + 1)), qi (xs (i + 2))]) (rest := [.int r]) (M_boy hM1 hW (xs (i + 1)) (xs (i + 2))) (n := 75) (by decide +kernel) rfl (h := 2112) (by decide +kernel) rfl rfl (by decide +kernel) (by decide) (Nat.le_of_ble_eq_true rfl) h1 h2 (fun r' σ2 g2 => ?_)
  obtain ⟨e, hB'⟩ := zPairI hX hM hW g1 (fun _ => g2)
  exact gW.eq (off := 1186) 1911 e (by decide +kernel) rfl (K _ hB')
theorem g_quarrel {E : qE} {b L : Nat} {xs : Nat → Int32} {nc ns i : Nat} {σ : qSg} (hB : zBoth σ) (hi : i + 5 < L) (hL : L ≤ 3072) (h1 : nc ≤ 600000) (h2 : ns ≤ 7302250) (K : ∀ σ', zBoth σ' → gW E b L xs nc ns 1911 [(3, .int (nI i)), (2, .ref (E.2.1 139)), (1, .ref (E.2.1 0)), (0, .ref b)] [] (qws E σ')) : gW E b L xs nc ns 730 [(3, .int (nI i)), (2, .ref (E.2.1 139)), (1, .ref (E.2.1 0)), (0, .ref b)] [] (qws E σ) := by
  obtain ⟨A, hX, hM, hW⟩ := hB
  refine gW.al (n := 1) (i := 1) 2 (by decide +kernel) rfl rfl ?_
  refine gW.arg (i := i) (k := 1) (j3 := 0) (j0 := 3) rfl rfl (by omega) hL (by decide +kernel) (by decide +kernel) (by decide +kernel) (by decide +kernel) (by decide +kernel) ?_
  refine gW.arg (i := i) (k := 2) (j3 := 0) (j0 := 3) rfl rfl (by omega) hL (by decide +kernel) (by decide +kernel) (by decide +kernel) (by decide +kernel) (by decide +kernel) ?_
  refine gW.cI (k := 158) (a0 := 0) (as := [qi (xs (i + 1)), qi (xs (i + 2))]) (rest := []) (X_quarrel hX hW (xs (i + 1)) (xs (i + 2))) (n := 76) (by decide +kernel) rfl (h := 1194) (by decide +kernel) rfl rfl (by decide +kernel) (by decide) (Nat.le_of_ble_eq_true rfl) h1 h2 (fun r σ1 g1 => ?_)
  have hM1 := zPairM hM hW g1
  refine gW.al (n := 2) (i := 2) 1 (by decide +kernel) rfl rfl ?_
  refine gW.arg (i := i) (k := 1) (j3 := 0) (j0 := 3) rfl rfl (by omega) hL (by decide +kernel) (by decide +kernel) (by decide +kernel) (by decide +kernel) (by decide +kernel) ?_
  refine gW.arg (i := i) (k := 2) (j3 := 0) (j0 := 3) rfl rfl (by omega) hL (by decide +kernel) (by decide +kernel) (by decide +kernel) (by decide +kernel) (by decide +kernel) ?_
  refine gW.cI (k := 278) (a0 := 139) (as := [qi (xs (i + 1)), qi (xs (i + 2))]) (rest := [.int r]) (M_quarrel hM1 hW (xs (i + 1)) (xs (i + 2))) (n := 79) (by decide +kernel) rfl (h := 2127) (by decide +kernel) rfl rfl (by decide +kernel) (by decide) (Nat.le_of_ble_eq_true rfl) h1 h2 (fun r' σ2 g2 => ?_)
  obtain ⟨e, hB'⟩ := zPairI hX hM hW g1 (fun _ => g2)
  exact gW.eq (off := 1153) 1911 e (by decide +kernel) rfl (K _ hB')
theorem g_minute {E : qE} {b L : Nat} {xs : Nat → Int32} {nc ns i : Nat} {σ : qSg} (hB : zBoth σ) (hi : i + 5 < L) (hL : L ≤ 3072) (h1 : nc ≤ 600000) (h2 : ns ≤ 7302250) (K : ∀ σ', zBoth σ' → gW E b L xs nc ns 1911 [(3, .int (nI i)), (2, .ref (E.2.1 139)), (1, .ref (E.2.1 0)), (0, .ref b)] [] (qws E σ')) : gW E b L xs nc ns 763 [(3, .int (nI i)), (2, .ref (E.2.1 139)), (1, .ref (E.2.1 0)), (0, .ref b)] [] (qws E σ) := by
  obtain ⟨A, hX, hM, hW⟩ := hB
  refine gW.al (n := 1) (i := 1) 2 (by decide +kernel) rfl rfl ?_
  refine gW.arg (i := i) (k := 1) (j3 := 0) (j0 := 3) rfl rfl (by omega) hL (by decide +kernel) (by decide +kernel) (by decide +kernel) (by decide +kernel) (by decide +kernel) ?_
  refine gW.cI (k := 159) (a0 := 0) (as := [qi (xs (i + 1))]) (rest := []) (X_minute hX hW (xs (i + 1))) (n := 80) (by decide +kernel) rfl (h := 1202) (by decide +kernel) rfl rfl (by decide +kernel) (by decide) (Nat.le_of_ble_eq_true rfl) h1 h2 (fun r σ1 g1 => ?_)
  have hM1 := zPairM hM hW g1
  refine gW.al (n := 2) (i := 2) 1 (by decide +kernel) rfl rfl ?_
  refine gW.arg (i := i) (k := 1) (j3 := 0) (j0 := 3) rfl rfl (by omega) hL (by decide +kernel) (by decide +kernel) (by decide +kernel) (by decide +kernel) (by decide +kernel) ?_
  refine gW.cI (k := 282) (a0 := 139) (as := [qi (xs (i + 1))]) (rest := [.int r]) (M_minute hM1 hW (xs (i + 1))) (n := 83) (by decide +kernel) rfl (h := 2135) (by decide +kernel) rfl rfl (by decide +kernel) (by decide) (Nat.le_of_ble_eq_true rfl) h1 h2 (fun r' σ2 g2 => ?_)
  obtain ⟨e, hB'⟩ := zPairI hX hM hW g1 (fun _ => g2)
  exact gW.eq (off := 1130) 1911 e (by decide +kernel) rfl (K _ hB')
theorem g_dawn {E : qE} {b L : Nat} {xs : Nat → Int32} {nc ns i : Nat} {σ : qSg} (hB : zBoth σ) (hi : i + 5 < L) (hL : L ≤ 3072) (h1 : nc ≤ 600000) (h2 : ns ≤ 7302250) (K : ∀ σ', zBoth σ' → gW E b L xs nc ns 1911 [(3, .int (nI i)), (2, .ref (E.2.1 139)), (1, .ref (E.2.1 0)), (0, .ref b)] [] (qws E σ')) : gW E b L xs nc ns 786 [(3, .int (nI i)), (2, .ref (E.2.1 139)), (1, .ref (E.2.1 0)), (0, .ref b)] [] (qws E σ) := by
  obtain ⟨A, hX, hM, hW⟩ := hB
  refine gW.al (n := 1) (i := 1) 2 (by decide +kernel) rfl rfl ?_
  refine gW.cI (k := 160) (a0 := 0) (as := []) (rest := []) (X_dawn hX hW) (n := 84) (by decide +kernel) rfl (h := 1238) (by decide +kernel) rfl rfl (by decide +kernel) (by decide) (Nat.le_of_ble_eq_true rfl) h1 h2 (fun r σ1 g1 => ?_)
  have hM1 := zPairM hM hW g1
  refine gW.al (n := 2) (i := 2) 1 (by decide +kernel) rfl rfl ?_
  refine gW.cI (k := 284) (a0 := 139) (as := []) (rest := [.int r]) (M_dawn hM1 hW) (n := 87) (by decide +kernel) rfl (h := 2170) (by decide +kernel) rfl rfl (by decide +kernel) (by decide) (Nat.le_of_ble_eq_true rfl) h1 h2 (fun r' σ2 g2 => ?_)
  obtain ⟨e, hB'⟩ := zPairI hX hM hW g1 (fun _ => g2)
  exact gW.eq (off := 1117) 1911 e (by decide +kernel) rfl (K _ hB')
theorem g_boot {E : qE} {b L : Nat} {xs : Nat → Int32} {nc ns i : Nat} {σ : qSg} (hB : zBoth σ) (hi : i + 5 < L) (hL : L ≤ 3072) (h1 : nc ≤ 600000) (h2 : ns ≤ 7302250) (K : ∀ σ', zBoth σ' → gW E b L xs nc ns 1911 [(3, .int (nI i)), (2, .ref (E.2.1 139)), (1, .ref (E.2.1 0)), (0, .ref b)] [] (qws E σ')) : gW E b L xs nc ns 799 [(3, .int (nI i)), (2, .ref (E.2.1 139)), (1, .ref (E.2.1 0)), (0, .ref b)] [] (qws E σ) := by
  obtain ⟨A, hX, hM, hW⟩ := hB
  refine gW.al (n := 1) (i := 1) 2 (by decide +kernel) rfl rfl ?_
  refine gW.arg (i := i) (k := 1) (j3 := 0) (j0 := 3) rfl rfl (by omega) hL (by decide +kernel) (by decide +kernel) (by decide +kernel) (by decide +kernel) (by decide +kernel) ?_
  refine gW.arg (i := i) (k := 2) (j3 := 0) (j0 := 3) rfl rfl (by omega) hL (by decide +kernel) (by decide +kernel) (by decide +kernel) (by decide +kernel) (by decide +kernel) ?_
  refine gW.arg (i := i) (k := 3) (j3 := 0) (j0 := 3) rfl rfl (by omega) hL (by decide +kernel) (by decide +kernel) (by decide +kernel) (by decide +kernel) (by decide +kernel) ?_
  refine gW.cI (k := 161) (a0 := 0) (as := [qi (xs (i + 1)), qi (xs (i + 2)), qi (xs (i + 3))]) (rest := []) (X_boot hX hW (xs (i + 1)) (xs (i + 2)) (xs (i + 3))) (n := 88) (by decide +kernel) rfl (h := 1246) (by decide +kernel) rfl rfl (by decide +kernel) (by decide) (Nat.le_of_ble_eq_true rfl) h1 h2 (fun r σ1 g1 => ?_)
  have hM1 := zPairM hM hW g1
  refine gW.al (n := 2) (i := 2) 1 (by decide +kernel) rfl rfl ?_
  refine gW.arg (i := i) (k := 1) (j3 := 0) (j0 := 3) rfl rfl (by omega) hL (by decide +kernel) (by decide +kernel) (by decide +kernel) (by decide +kernel) (by decide +kernel) ?_
  refine gW.arg (i := i) (k := 2) (j3 := 0) (j0 := 3) rfl rfl (by omega) hL (by decide +kernel) (by decide +kernel) (by decide +kernel) (by decide +kernel) (by decide +kernel) ?_
  refine gW.arg (i := i) (k := 3) (j3 := 0) (j0 := 3) rfl rfl (by omega) hL (by decide +kernel) (by decide +kernel) (by decide +kernel) (by decide +kernel) (by decide +kernel) ?_
  refine gW.cI (k := 286) (a0 := 139) (as := [qi (xs (i + 1)), qi (xs (i + 2)), qi (xs (i + 3))]) (rest := [.int r]) (M_boot hM1 hW (xs (i + 1)) (xs (i + 2)) (xs (i + 3))) (n := 92) (by decide +kernel) rfl (h := 2178) (by decide +kernel) rfl rfl (by decide +kernel) (by decide) (Nat.le_of_ble_eq_true rfl) h1 h2 (fun r' σ2 g2 => ?_)
  obtain ⟨e, hB'⟩ := zPairI hX hM hW g1 (fun _ => g2)
  exact gW.eq (off := 1074) 1911 e (by decide +kernel) rfl (K _ hB')
theorem g_forgive {E : qE} {b L : Nat} {xs : Nat → Int32} {nc ns i : Nat} {σ : qSg} (hB : zBoth σ) (hi : i + 5 < L) (hL : L ≤ 3072) (h1 : nc ≤ 600000) (h2 : ns ≤ 7302250) (K : ∀ σ', zBoth σ' → gW E b L xs nc ns 1911 [(3, .int (nI i)), (2, .ref (E.2.1 139)), (1, .ref (E.2.1 0)), (0, .ref b)] [] (qws E σ')) : gW E b L xs nc ns 842 [(3, .int (nI i)), (2, .ref (E.2.1 139)), (1, .ref (E.2.1 0)), (0, .ref b)] [] (qws E σ) := by
  obtain ⟨A, hX, hM, hW⟩ := hB
  refine gW.al (n := 1) (i := 1) 2 (by decide +kernel) rfl rfl ?_
  refine gW.arg (i := i) (k := 1) (j3 := 0) (j0 := 3) rfl rfl (by omega) hL (by decide +kernel) (by decide +kernel) (by decide +kernel) (by decide +kernel) (by decide +kernel) ?_
  refine gW.cI (k := 162) (a0 := 0) (as := [qi (xs (i + 1))]) (rest := []) (X_forgive hX hW (xs (i + 1))) (n := 93) (by decide +kernel) rfl (h := 1252) (by decide +kernel) rfl rfl (by decide +kernel) (by decide) (Nat.le_of_ble_eq_true rfl) h1 h2 (fun r σ1 g1 => ?_)
  have hM1 := zPairM hM hW g1
  refine gW.al (n := 2) (i := 2) 1 (by decide +kernel) rfl rfl ?_
  refine gW.arg (i := i) (k := 1) (j3 := 0) (j0 := 3) rfl rfl (by omega) hL (by decide +kernel) (by decide +kernel) (by decide +kernel) (by decide +kernel) (by decide +kernel) ?_
  refine gW.cI (k := 288) (a0 := 139) (as := [qi (xs (i + 1))]) (rest := [.int r]) (M_forgive hM1 hW (xs (i + 1))) (n := 96) (by decide +kernel) rfl (h := 2187) (by decide +kernel) rfl rfl (by decide +kernel) (by decide) (Nat.le_of_ble_eq_true rfl) h1 h2 (fun r' σ2 g2 => ?_)
  obtain ⟨e, hB'⟩ := zPairI hX hM hW g1 (fun _ => g2)
  exact gW.eq (off := 1051) 1911 e (by decide +kernel) rfl (K _ hB')
theorem g_pitch {E : qE} {b L : Nat} {xs : Nat → Int32} {nc ns i : Nat} {σ : qSg} (hB : zBoth σ) (hi : i + 5 < L) (hL : L ≤ 3072) (h1 : nc ≤ 600000) (h2 : ns ≤ 7302250) (K : ∀ σ', zBoth σ' → gW E b L xs nc ns 1911 [(3, .int (nI i)), (2, .ref (E.2.1 139)), (1, .ref (E.2.1 0)), (0, .ref b)] [] (qws E σ')) : gW E b L xs nc ns 865 [(3, .int (nI i)), (2, .ref (E.2.1 139)), (1, .ref (E.2.1 0)), (0, .ref b)] [] (qws E σ) := by
  obtain ⟨A, hX, hM, hW⟩ := hB
  refine gW.al (n := 1) (i := 1) 2 (by decide +kernel) rfl rfl ?_
  refine gW.arg (i := i) (k := 1) (j3 := 0) (j0 := 3) rfl rfl (by omega) hL (by decide +kernel) (by decide +kernel) (by decide +kernel) (by decide +kernel) (by decide +kernel) ?_
  refine gW.arg (i := i) (k := 2) (j3 := 0) (j0 := 3) rfl rfl (by omega) hL (by decide +kernel) (by decide +kernel) (by decide +kernel) (by decide +kernel) (by decide +kernel) ?_
  refine gW.cI (k := 163) (a0 := 0) (as := [qi (xs (i + 1)), qi (xs (i + 2))]) (rest := []) (X_pitch hX hW (xs (i + 1)) (xs (i + 2))) (n := 97) (by decide +kernel) rfl (h := 1260) (by decide +kernel) rfl rfl (by decide +kernel) (by decide) (Nat.le_of_ble_eq_true rfl) h1 h2 (fun r σ1 g1 => ?_)
  have hM1 := zPairM hM hW g1
  refine gW.al (n := 2) (i := 2) 1 (by decide +kernel) rfl rfl ?_
  refine gW.arg (i := i) (k := 1) (j3 := 0) (j0 := 3) rfl rfl (by omega) hL (by decide +kernel) (by decide +kernel) (by decide +kernel) (by decide +kernel) (by decide +kernel) ?_
  refine gW.arg (i := i) (k := 2) (j3 := 0) (j0 := 3) rfl rfl (by omega) hL (by decide +kernel) (by decide +kernel) (by decide +kernel) (by decide +kernel) (by decide +kernel) ?_
  refine gW.cI (k := 290) (a0 := 139) (as := [qi (xs (i + 1)), qi (xs (i + 2))]) (rest := [.int r]) (M_pitch hM1 hW (xs (i + 1)) (xs (i + 2))) (n := 100) (by decide +kernel) rfl (h := 2195) (by decide +kernel) rfl rfl (by decide +kernel) (by decide) (Nat.le_of_ble_eq_true rfl) h1 h2 (fun r' σ2 g2 => ?_)
  obtain ⟨e, hB'⟩ := zPairI hX hM hW g1 (fun _ => g2)
  exact gW.eq (off := 1018) 1911 e (by decide +kernel) rfl (K _ hB')
theorem g_teach {E : qE} {b L : Nat} {xs : Nat → Int32} {nc ns i : Nat} {σ : qSg} (hB : zBoth σ) (hi : i + 5 < L) (hL : L ≤ 3072) (h1 : nc ≤ 600000) (h2 : ns ≤ 7302250) (K : ∀ σ', zBoth σ' → gW E b L xs nc ns 1911 [(3, .int (nI i)), (2, .ref (E.2.1 139)), (1, .ref (E.2.1 0)), (0, .ref b)] [] (qws E σ')) : gW E b L xs nc ns 898 [(3, .int (nI i)), (2, .ref (E.2.1 139)), (1, .ref (E.2.1 0)), (0, .ref b)] [] (qws E σ) := by
  obtain ⟨A, hX, hM, hW⟩ := hB
  refine gW.al (n := 1) (i := 1) 2 (by decide +kernel) rfl rfl ?_
  refine gW.arg (i := i) (k := 1) (j3 := 0) (j0 := 3) rfl rfl (by omega) hL (by decide +kernel) (by decide +kernel) (by decide +kernel) (by decide +kernel) (by decide +kernel) ?_
  refine gW.arg (i := i) (k := 2) (j3 := 0) (j0 := 3) rfl rfl (by omega) hL (by decide +kernel) (by decide +kernel) (by decide +kernel) (by decide +kernel) (by decide +kernel) ?_
  refine gW.arg (i := i) (k := 3) (j3 := 0) (j0 := 3) rfl rfl (by omega) hL (by decide +kernel) (by decide +kernel) (by decide +kernel) (by decide +kernel) (by decide +kernel) ?_
  refine gW.cI (k := 164) (a0 := 0) (as := [qi (xs (i + 1)), qi (xs (i + 2)), qi (xs (i + 3))]) (rest := []) (X_teach hX hW (xs (i + 1)) (xs (i + 2)) (xs (i + 3))) (n := 101) (by decide +kernel) rfl (h := 1288) (by decide +kernel) rfl rfl (by decide +kernel) (by decide) (Nat.le_of_ble_eq_true rfl) h1 h2 (fun r σ1 g1 => ?_)
  have hM1 := zPairM hM hW g1
  refine gW.al (n := 2) (i := 2) 1 (by decide +kernel) rfl rfl ?_
  refine gW.arg (i := i) (k := 1) (j3 := 0) (j0 := 3) rfl rfl (by omega) hL (by decide +kernel) (by decide +kernel) (by decide +kernel) (by decide +kernel) (by decide +kernel) ?_
  refine gW.arg (i := i) (k := 2) (j3 := 0) (j0 := 3) rfl rfl (by omega) hL (by decide +kernel) (by decide +kernel) (by decide +kernel) (by decide +kernel) (by decide +kernel) ?_
  refine gW.arg (i := i) (k := 3) (j3 := 0) (j0 := 3) rfl rfl (by omega) hL (by decide +kernel) (by decide +kernel) (by decide +kernel) (by decide +kernel) (by decide +kernel) ?_
  refine gW.cI (k := 291) (a0 := 139) (as := [qi (xs (i + 1)), qi (xs (i + 2)), qi (xs (i + 3))]) (rest := [.int r]) (M_teach hM1 hW (xs (i + 1)) (xs (i + 2)) (xs (i + 3))) (n := 104) (by decide +kernel) rfl (h := 2207) (by decide +kernel) rfl rfl (by decide +kernel) (by decide) (Nat.le_of_ble_eq_true rfl) h1 h2 (fun r' σ2 g2 => ?_)
  obtain ⟨e, hB'⟩ := zPairI hX hM hW g1 (fun _ => g2)
  exact gW.eq (off := 975) 1911 e (by decide +kernel) rfl (K _ hB')
