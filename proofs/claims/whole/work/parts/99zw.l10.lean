/-! the law: its switch and its loop -/
def gOF : Array Int := #[255, 268, 282, 296, 339, 412, 446, 509, 572, 595, 618, 641, 664, 697, 730, 753, 766, 809, 832, 865, 908, 941, 974, 997, 1030, 1053, 1076, 1109, 1132, 1155, 1168, 1191, 1214, 1227, 1240, 1263, 1286, 1309, 1332, 1345, 1358, 1371, 1384, 1407, 1420, 1433, 1476, 1529, 1572, 1605, 1658, 1681, 1704, 1727, 1750, 1773, 1796, 1819, 1852, 1865]
theorem gd33 : decode code 33 = .ok (.tableswitch 1878 0 59 gOF, 255) := by decide +kernel
theorem g63 (x : Int32) : ∃ k, k < 64 ∧ x &&& nI 63 = nI k := by
  refine ⟨x.toUInt32.toNat &&& 63, ?_, ?_⟩
  · have := Nat.and_le_right (n := x.toUInt32.toNat) (m := 63)
    omega
  · rw [← nI_and, ← zlb_self]
section GE
variable {E : qE} {b L : Nat} {xs : Nat → Int32} {nc ns pc : Nat} {lo : List (Nat × Value)} {st : List Value} {ws : va_W}
theorem gW.len (j : Nat) (h0 : lo[j]? = some (0, .ref b)) (d0 : decode code pc = .ok (.aload_n 0, 1)) (d1 : decode code (pc + 1) = .ok (.arraylength, 1)) (K : gW E b L xs nc ns (pc + 2) lo (.int (nI L) :: st) ws) : gW E b L xs nc ns pc lo st ws := by
  intro p l e s m below meth c X H locs ls hP hD hS hLL
  refine lv_aload_n (k := 0) X.1.1 X.1.2.1 d0 rfl (lv_at hLL j h0) ?_
  refine va_slen X.1.1 X.1.2.1 X.1.2.2.2.2.2.2.1 X.1.2.2.2.2.2.2.2.1 (fun h => ?_) hS d1 ?_
  · have h : E.2.2.2 ≤ b := h
    rw [X.2.2.2.2] at h
    have := X.1.2.2.2.2.2.2.2.1
    omega
  exact K p l e s m below meth c X H locs ls hP hD hS hLL
/-- the script's own place i -/
theorem gW.ar0 {i : Nat} {j3 j0 : Nat} (h0 : lo[j0]? = some (0, .ref b)) (h3 : lo[j3]? = some (3, .int (nI i))) (hi : i < L) (hL : L ≤ 3072) (d0 : decode code pc = .ok (.aload_n 0, 1)) (d1 : decode code (pc + 1) = .ok (.iload_n 3, 1)) (d2 : decode code (pc + 2) = .ok (.iaload, 1)) (K : gW E b L xs nc ns (pc + 3) lo (.int (xs i) :: st) ws) : gW E b L xs nc ns pc lo st ws := by
  intro p l e s m below meth c X H locs ls hP hD hS hLL
  refine lv_aload_n (k := 0) X.1.1 X.1.2.1 d0 rfl (lv_at hLL j0 h0) ?_
  refine lv_iload_n (k := 3) X.1.1 X.1.2.1 d1 rfl (lv_at hLL j3 h3) ?_
  refine va_sld X.1.1 X.1.2.1 X.1.2.2.2.2.2.2.1 X.1.2.2.2.2.2.2.2.1 (fun h => ?_) hS (vp_in_nI hi (by omega)) d2 ?_
  · have h : E.2.2.2 ≤ b := h
    rw [X.2.2.2.2] at h
    have := X.1.2.2.2.2.2.2.2.1
    omega
  rw [nI_clamp (by omega)]
  exact K p l e s m below meth c X H locs ls hP hD hS hLL
theorem gW.sb {x y : Int32} (hd : decode code pc = .ok (.isub, 1)) (K : gW E b L xs nc ns (pc + 1) lo (.int (x - y) :: st) ws) : gW E b L xs nc ns pc lo (.int y :: .int x :: st) ws := by
  intro p l e s m below meth c X H locs ls hP hD hS hL
  exact lv_isub X.1.1 X.1.2.1 hd (K p l e s m below meth c X H locs ls hP hD hS hL)
theorem gW.ia {x y : Int32} (hd : decode code pc = .ok (.iand, 1)) (K : gW E b L xs nc ns (pc + 1) lo (.int (x &&& y) :: st) ws) : gW E b L xs nc ns pc lo (.int y :: .int x :: st) ws := by
  intro p l e s m below meth c X H locs ls hP hD hS hL
  exact lv_iand X.1.1 X.1.2.1 hd (K p l e s m below meth c X H locs ls hP hD hS hL)
theorem gW.ti {k : Nat} {off : Int} (t : Nat) (hk : k < 60) (ho : gOF[k]? = some off) (ht : ((33 : Nat) : Int) + off = (t : Int)) (K : gW E b L xs nc ns t lo st ws) : gW E b L xs nc ns 33 lo (.int (nI k) :: st) ws := by
  intro p l e s m below meth c X H locs ls hP hD hS hL
  have e1 : (nI k).toInt = k := nI_t (by omega)
  refine lv_tableIn X.1.1 X.1.2.1 gd33 (by rw [e1]; omega) (by rw [e1]; omega) ?_ ht (K p l e s m below meth c X H locs ls hP hD hS hL)
  rw [e1, show ((k : Int) - 0).toNat = k by omega]
  exact ho
theorem gW.to {k : Nat} (t : Nat) (h1 : 59 < k) (h2 : k < 64) (ht : ((33 : Nat) : Int) + 1878 = (t : Int)) (K : gW E b L xs nc ns t lo st ws) : gW E b L xs nc ns 33 lo (.int (nI k) :: st) ws := by
  intro p l e s m below meth c X H locs ls hP hD hS hL
  have e1 : (nI k).toInt = k := nI_t (by omega)
  exact lv_tableOut X.1.1 X.1.2.1 gd33 (Or.inr (by rw [e1]; omega)) ht (K p l e s m below meth c X H locs ls hP hD hS hL)
/-- the end: true -/
theorem gW.en (h1 : nc ≤ 600000) (h2 : ns ≤ 7302250) : gW E b L xs nc ns 1917 lo [] ws := by
  refine gW.ic (n := 1) (1 : Int32) (by decide +kernel) rfl ?_
  intro p l e s m below meth c X H locs ls hP hD hS hLL
  refine W.widen h1 h2 (va_forget (fun q hq => ?_) ?_)
  · have h : E.2.2.2 ≤ q.base := hS.2.2 q hq
    rw [X.2.2.2.2] at h
    exact h
  · exact lw_ret X.1.1 X.1.2.1 X.1.2.2.1 X.1.2.2.2.2.2.2.2.2.1 (by decide +kernel)
/-- the same world in other names of the cells -/
theorem gW.nm {w : va_W} (h : gW (kE' E w) b L xs nc ns pc lo st ws) : gW E b L xs nc ns pc lo st ws := by
  intro p l e s m below meth c X
  exact h p l e s m below meth c ⟨X.1, X.2.1, X.2.2.1, X.2.2.2.1, X.2.2.2.2⟩
end GE
theorem g_all {E : qE} {b L : Nat} {xs : Nat → Int32} {nc ns i : Nat} {σ : qSg} (hB : zBoth σ) (hi : i + 5 < L) (hL : L ≤ 3072) (h1 : nc ≤ 600000) (h2 : ns ≤ 7302250) (K : ∀ σ', zBoth σ' → gW E b L xs nc ns 1911 [(3, .int (nI i)), (2, .ref (E.2.1 139)), (1, .ref (E.2.1 0)), (0, .ref b)] [] (qws E σ')) (k : Nat) (hk : k < 64) : gW E b L xs nc ns 33 [(3, .int (nI i)), (2, .ref (E.2.1 139)), (1, .ref (E.2.1 0)), (0, .ref b)] [.int (nI k)] (qws E σ) := by
  rcases Nat.lt_or_ge k 60 with h60 | h60
  · rcases Nat.lt_or_ge k 30 with u30 | u30
    · rcases Nat.lt_or_ge k 15 with u15 | u15
      · rcases Nat.lt_or_ge k 7 with u7 | u7
        · rcases Nat.lt_or_ge k 3 with u3 | u3
          · rcases Nat.lt_or_ge k 1 with u1 | u1
            · obtain rfl : k = 0 := by omega
              exact gW.ti 288 (off := 255) (by omega) rfl rfl (g_status hB hi hL h1 h2 K)
            · rcases Nat.lt_or_ge k 2 with u2 | u2
              · obtain rfl : k = 1 := by omega
                exact gW.ti 301 (off := 268) (by omega) rfl rfl (g_top hB hi hL h1 h2 K)
              · obtain rfl : k = 2 := by omega
                exact gW.ti 315 (off := 282) (by omega) rfl rfl (g_bottom hB hi hL h1 h2 K)
          · rcases Nat.lt_or_ge k 5 with u5 | u5
            · rcases Nat.lt_or_ge k 4 with u4 | u4
              · obtain rfl : k = 3 := by omega
                exact gW.ti 329 (off := 296) (by omega) rfl rfl (g_tray hB hi hL h1 h2 K)
              · obtain rfl : k = 4 := by omega
                exact gW.ti 372 (off := 339) (by omega) rfl rfl (g_write hB hi hL h1 h2 K)
            · rcases Nat.lt_or_ge k 6 with u6 | u6
              · obtain rfl : k = 5 := by omega
                exact gW.ti 445 (off := 412) (by omega) rfl rfl (g_read hB hi hL h1 h2 K)
              · obtain rfl : k = 6 := by omega
                exact gW.ti 479 (off := 446) (by omega) rfl rfl (g_pour hB hi hL h1 h2 K)
        · rcases Nat.lt_or_ge k 11 with u11 | u11
          · rcases Nat.lt_or_ge k 9 with u9 | u9
            · rcases Nat.lt_or_ge k 8 with u8 | u8
              · obtain rfl : k = 7 := by omega
                exact gW.ti 542 (off := 509) (by omega) rfl rfl (g_feed hB hi hL h1 h2 K)
              · obtain rfl : k = 8 := by omega
                exact gW.ti 605 (off := 572) (by omega) rfl rfl (g_camp hB hi hL h1 h2 K)
            · rcases Nat.lt_or_ge k 10 with u10 | u10
              · obtain rfl : k = 9 := by omega
                exact gW.ti 628 (off := 595) (by omega) rfl rfl (g_weeks hB hi hL h1 h2 K)
              · obtain rfl : k = 10 := by omega
                exact gW.ti 651 (off := 618) (by omega) rfl rfl (g_fault hB hi hL h1 h2 K)
          · rcases Nat.lt_or_ge k 13 with u13 | u13
            · rcases Nat.lt_or_ge k 12 with u12 | u12
              · obtain rfl : k = 11 := by omega
                exact gW.ti 674 (off := 641) (by omega) rfl rfl (g_told hB hi hL h1 h2 K)
              · obtain rfl : k = 12 := by omega
                exact gW.ti 697 (off := 664) (by omega) rfl rfl (g_boy hB hi hL h1 h2 K)
            · rcases Nat.lt_or_ge k 14 with u14 | u14
              · obtain rfl : k = 13 := by omega
                exact gW.ti 730 (off := 697) (by omega) rfl rfl (g_quarrel hB hi hL h1 h2 K)
              · obtain rfl : k = 14 := by omega
                exact gW.ti 763 (off := 730) (by omega) rfl rfl (g_minute hB hi hL h1 h2 K)
      · rcases Nat.lt_or_ge k 22 with u22 | u22
        · rcases Nat.lt_or_ge k 18 with u18 | u18
          · rcases Nat.lt_or_ge k 16 with u16 | u16
            · obtain rfl : k = 15 := by omega
              exact gW.ti 786 (off := 753) (by omega) rfl rfl (g_dawn hB hi hL h1 h2 K)
            · rcases Nat.lt_or_ge k 17 with u17 | u17
              · obtain rfl : k = 16 := by omega
                exact gW.ti 799 (off := 766) (by omega) rfl rfl (g_boot hB hi hL h1 h2 K)
              · obtain rfl : k = 17 := by omega
                exact gW.ti 842 (off := 809) (by omega) rfl rfl (g_forgive hB hi hL h1 h2 K)
          · rcases Nat.lt_or_ge k 20 with u20 | u20
            · rcases Nat.lt_or_ge k 19 with u19 | u19
              · obtain rfl : k = 18 := by omega
                exact gW.ti 865 (off := 832) (by omega) rfl rfl (g_pitch hB hi hL h1 h2 K)
              · obtain rfl : k = 19 := by omega
                exact gW.ti 898 (off := 865) (by omega) rfl rfl (g_teach hB hi hL h1 h2 K)
            · rcases Nat.lt_or_ge k 21 with u21 | u21
              · obtain rfl : k = 20 := by omega
                exact gW.ti 941 (off := 908) (by omega) rfl rfl (g_stir hB hi hL h1 h2 K)
              · obtain rfl : k = 21 := by omega
                exact gW.ti 974 (off := 941) (by omega) rfl rfl (g_come hB hi hL h1 h2 K)
        · rcases Nat.lt_or_ge k 26 with u26 | u26
          · rcases Nat.lt_or_ge k 24 with u24 | u24
            · rcases Nat.lt_or_ge k 23 with u23 | u23
              · obtain rfl : k = 22 := by omega
                exact gW.ti 1007 (off := 974) (by omega) rfl rfl (g_rule hB hi hL h1 h2 K)
              · obtain rfl : k = 23 := by omega
                exact gW.ti 1030 (off := 997) (by omega) rfl rfl (g_far hB hi hL h1 h2 K)
            · rcases Nat.lt_or_ge k 25 with u25 | u25
              · obtain rfl : k = 24 := by omega
                exact gW.ti 1063 (off := 1030) (by omega) rfl rfl (g_hears hB hi hL h1 h2 K)
              · obtain rfl : k = 25 := by omega
                exact gW.ti 1086 (off := 1053) (by omega) rfl rfl (g_near hB hi hL h1 h2 K)
          · rcases Nat.lt_or_ge k 28 with u28 | u28
            · rcases Nat.lt_or_ge k 27 with u27 | u27
              · obtain rfl : k = 26 := by omega
                exact gW.ti 1109 (off := 1076) (by omega) rfl rfl (g_due hB hi hL h1 h2 K)
              · obtain rfl : k = 27 := by omega
                exact gW.ti 1142 (off := 1109) (by omega) rfl rfl (g_upIn hB hi hL h1 h2 K)
            · rcases Nat.lt_or_ge k 29 with u29 | u29
              · obtain rfl : k = 28 := by omega
                exact gW.ti 1165 (off := 1132) (by omega) rfl rfl (g_upBy hB hi hL h1 h2 K)
              · obtain rfl : k = 29 := by omega
                exact gW.ti 1188 (off := 1155) (by omega) rfl rfl (g_breakfast hB hi hL h1 h2 K)
    · rcases Nat.lt_or_ge k 45 with u45 | u45
      · rcases Nat.lt_or_ge k 37 with u37 | u37
        · rcases Nat.lt_or_ge k 33 with u33 | u33
          · rcases Nat.lt_or_ge k 31 with u31 | u31
            · obtain rfl : k = 30 := by omega
              exact gW.ti 1201 (off := 1168) (by omega) rfl rfl (g_overIn hB hi hL h1 h2 K)
            · rcases Nat.lt_or_ge k 32 with u32 | u32
              · obtain rfl : k = 31 := by omega
                exact gW.ti 1224 (off := 1191) (by omega) rfl rfl (g_yielder hB hi hL h1 h2 K)
              · obtain rfl : k = 32 := by omega
                exact gW.ti 1247 (off := 1214) (by omega) rfl rfl (g_reveille hB hi hL h1 h2 K)
          · rcases Nat.lt_or_ge k 35 with u35 | u35
            · rcases Nat.lt_or_ge k 34 with u34 | u34
              · obtain rfl : k = 33 := by omega
                exact gW.ti 1260 (off := 1227) (by omega) rfl rfl (g_last hB hi hL h1 h2 K)
              · obtain rfl : k = 34 := by omega
                exact gW.ti 1273 (off := 1240) (by omega) rfl rfl (g_soonest hB hi hL h1 h2 K)
            · rcases Nat.lt_or_ge k 36 with u36 | u36
              · obtain rfl : k = 35 := by omega
                exact gW.ti 1296 (off := 1263) (by omega) rfl rfl (g_soonestIn hB hi hL h1 h2 K)
              · obtain rfl : k = 36 := by omega
                exact gW.ti 1319 (off := 1286) (by omega) rfl rfl (g_best hB hi hL h1 h2 K)
        · rcases Nat.lt_or_ge k 41 with u41 | u41
          · rcases Nat.lt_or_ge k 39 with u39 | u39
            · rcases Nat.lt_or_ge k 38 with u38 | u38
              · obtain rfl : k = 37 := by omega
                exact gW.ti 1342 (off := 1309) (by omega) rfl rfl (g_bestIn hB hi hL h1 h2 K)
              · obtain rfl : k = 38 := by omega
                exact gW.ti 1365 (off := 1332) (by omega) rfl rfl (g_ending hB hi hL h1 h2 K)
            · rcases Nat.lt_or_ge k 40 with u40 | u40
              · obtain rfl : k = 39 := by omega
                exact gW.ti 1378 (off := 1345) (by omega) rfl rfl (g_endingSet hB hi hL h1 h2 K)
              · obtain rfl : k = 40 := by omega
                exact gW.ti 1391 (off := 1358) (by omega) rfl rfl (g_apart hB hi hL h1 h2 K)
          · rcases Nat.lt_or_ge k 43 with u43 | u43
            · rcases Nat.lt_or_ge k 42 with u42 | u42
              · obtain rfl : k = 41 := by omega
                exact gW.ti 1404 (off := 1371) (by omega) rfl rfl (g_apartSet hB hi hL h1 h2 K)
              · obtain rfl : k = 42 := by omega
                exact gW.ti 1417 (off := 1384) (by omega) rfl rfl (g_circle hB hi hL h1 h2 K)
            · rcases Nat.lt_or_ge k 44 with u44 | u44
              · obtain rfl : k = 43 := by omega
                exact gW.ti 1440 (off := 1407) (by omega) rfl rfl (g_circles hB hi hL h1 h2 K)
              · obtain rfl : k = 44 := by omega
                exact gW.ti 1453 (off := 1420) (by omega) rfl rfl (g_sides hB hi hL h1 h2 K)
      · rcases Nat.lt_or_ge k 52 with u52 | u52
        · rcases Nat.lt_or_ge k 48 with u48 | u48
          · rcases Nat.lt_or_ge k 46 with u46 | u46
            · obtain rfl : k = 45 := by omega
              exact gW.ti 1466 (off := 1433) (by omega) rfl rfl (g_fits hB hi hL h1 h2 K)
            · rcases Nat.lt_or_ge k 47 with u47 | u47
              · obtain rfl : k = 46 := by omega
                exact gW.ti 1509 (off := 1476) (by omega) rfl rfl (g_fitsAt hB hi hL h1 h2 K)
              · obtain rfl : k = 47 := by omega
                exact gW.ti 1562 (off := 1529) (by omega) rfl rfl (g_ask hB hi hL h1 h2 K)
          · rcases Nat.lt_or_ge k 50 with u50 | u50
            · rcases Nat.lt_or_ge k 49 with u49 | u49
              · obtain rfl : k = 48 := by omega
                exact gW.ti 1605 (off := 1572) (by omega) rfl rfl (g_rests hB hi hL h1 h2 K)
              · obtain rfl : k = 49 := by omega
                exact gW.ti 1638 (off := 1605) (by omega) rfl rfl (g_restAt hB hi hL h1 h2 K)
            · rcases Nat.lt_or_ge k 51 with u51 | u51
              · obtain rfl : k = 50 := by omega
                exact gW.ti 1691 (off := 1658) (by omega) rfl rfl (g_game hB hi hL h1 h2 K)
              · obtain rfl : k = 51 := by omega
                exact gW.ti 1714 (off := 1681) (by omega) rfl rfl (g_moveOf hB hi hL h1 h2 K)
        · rcases Nat.lt_or_ge k 56 with u56 | u56
          · rcases Nat.lt_or_ge k 54 with u54 | u54
            · rcases Nat.lt_or_ge k 53 with u53 | u53
              · obtain rfl : k = 52 := by omega
                exact gW.ti 1737 (off := 1704) (by omega) rfl rfl (g_night hB hi hL h1 h2 K)
              · obtain rfl : k = 53 := by omega
                exact gW.ti 1760 (off := 1727) (by omega) rfl rfl (g_wakes hB hi hL h1 h2 K)
            · rcases Nat.lt_or_ge k 55 with u55 | u55
              · obtain rfl : k = 54 := by omega
                exact gW.ti 1783 (off := 1750) (by omega) rfl rfl (g_copyYields hB hi hL h1 h2 K)
              · obtain rfl : k = 55 := by omega
                exact gW.ti 1806 (off := 1773) (by omega) rfl rfl (g_live hB hi hL h1 h2 K)
          · rcases Nat.lt_or_ge k 58 with u58 | u58
            · rcases Nat.lt_or_ge k 57 with u57 | u57
              · obtain rfl : k = 56 := by omega
                exact gW.ti 1829 (off := 1796) (by omega) rfl rfl (g_lived hB hi hL h1 h2 K)
              · obtain rfl : k = 57 := by omega
                exact gW.ti 1852 (off := 1819) (by omega) rfl rfl (g_mean hB hi hL h1 h2 K)
            · rcases Nat.lt_or_ge k 59 with u59 | u59
              · obtain rfl : k = 58 := by omega
                exact gW.ti 1885 (off := 1852) (by omega) rfl rfl (g_mark hB hi hL h1 h2 K)
              · obtain rfl : k = 59 := by omega
                exact gW.ti 1898 (off := 1865) (by omega) rfl rfl (g_undo hB hi hL h1 h2 K)
  · exact gW.to 1911 (by omega) hk rfl (K _ hB)
theorem g_loop {E : qE} {b L : Nat} {xs : Nat → Int32} {nc ns : Nat} (hL : L ≤ 3072) (h1 : nc ≤ 600000) (h2 : ns ≤ 7302250) : ∀ (n i : Nat) (σ : qSg), L < i + n → i ≤ L → zBoth σ → gW E b L xs nc ns 18 [(3, .int (nI i)), (2, .ref (E.2.1 139)), (1, .ref (E.2.1 0)), (0, .ref b)] [] (qws E σ) := by
  intro n
  induction n with
  | zero => intro i σ h3 h4; omega
  | succ n ih =>
    intro i σ hn hi hB
    refine gW.il (n := 3) (i := 3) 0 (by decide +kernel) rfl rfl ?_
    refine gW.len 3 rfl (by decide +kernel) (by decide +kernel) ?_
    refine gW.bp (n := 6) (nI 6) (by decide +kernel) (by decide +kernel) ?_
    refine gW.sb (by decide +kernel) ?_
    refine gW.gt (off := 1893) 1917 (by decide +kernel) rfl (fun _ => gW.en h1 h2) (fun h => ?_)
    have h' : i + 5 < L := by
      rw [qlt, nI_t (by omega), iI_nat, iI_nat, iI_sub, iI_toInt (by omega) (by omega)] at h
      omega
    refine gW.ar0 (i := i) (j3 := 0) (j0 := 3) rfl rfl (by omega) hL (by decide +kernel) (by decide +kernel) (by decide +kernel) ?_
    refine gW.bp (n := 63) (nI 63) (by decide +kernel) (by decide +kernel) ?_
    refine gW.ia (by decide +kernel) ?_
    obtain ⟨k, hk, ek⟩ := g63 (xs i)
    rw [ek]
    refine g_all hB h' hL h1 h2 (fun σ' hB' => ?_) k hk
    refine gW.ii (i := 3) (n := 6) (v := nI (i + 6)) (lo' := [(3, .int (nI (i + 6))), (2, .ref (E.2.1 139)), (1, .ref (E.2.1 0)), (0, .ref b)]) 0 (by decide +kernel) rfl (nI_add i 6) (by decide) rfl ?_
    refine gW.go 18 (off := -1896) (by decide +kernel) rfl ?_
    exact ih (i + 6) σ' (by omega) (by omega) hB'
