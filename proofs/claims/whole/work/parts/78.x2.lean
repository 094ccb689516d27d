/-! bits counted, as java.lang.Integer counts them -/
theorem nI_ushr {s k : Nat} (hk : k < 31) (hs : s < 2147483648) : ((nI s).toUInt32 >>> ((nI k).toUInt32 &&& Int32.toUInt32 31)).toInt32 = nI (s / 2 ^ k) := by
  have h1 : ∀ k, k < 31 → (((nI k).toUInt32 &&& Int32.toUInt32 31).toBitVec % 32).toNat = k := by decide +kernel
  apply Int32.toBitVec_inj.mp
  show ((nI s).toUInt32 >>> ((nI k).toUInt32 &&& Int32.toUInt32 31)).toBitVec = (nI (s / 2 ^ k)).toBitVec
  rw [UInt32.toBitVec_shiftRight]
  have h2 : (nI s).toUInt32.toBitVec = BitVec.ofNat 32 s := rfl
  have h3 : (nI (s / 2 ^ k)).toBitVec = BitVec.ofNat 32 (s / 2 ^ k) := rfl
  rw [h2, h3]
  apply BitVec.eq_of_toNat_eq
  rw [BitVec.ushiftRight_eq', BitVec.toNat_ushiftRight, BitVec.toNat_ofNat, BitVec.toNat_ofNat, Nat.mod_eq_of_lt (by omega), Nat.shiftRight_eq_div_pow, h1 k hk, Nat.mod_eq_of_lt]
  exact Nat.lt_of_le_of_lt (Nat.div_le_self _ _) (by omega)
theorem zand_l {x y m n : Nat} (hx : x < 256) (hm : m < 256) : (x + 256 * y) &&& (m + 256 * n) = (x &&& m) + 256 * (y &&& n) := by
  have h1 : ((x + 256 * y) &&& (m + 256 * n)) / 2 ^ 8 = (x + 256 * y) / 2 ^ 8 &&& (m + 256 * n) / 2 ^ 8 := Nat.and_div_two_pow
  have h2 : ((x + 256 * y) &&& (m + 256 * n)) % 2 ^ 8 = ((x + 256 * y) % 2 ^ 8) &&& ((m + 256 * n) % 2 ^ 8) := Nat.and_mod_two_pow
  rw [show (x + 256 * y) / 2 ^ 8 = y by omega, show (m + 256 * n) / 2 ^ 8 = n by omega] at h1
  rw [show (x + 256 * y) % 2 ^ 8 = x by omega, show (m + 256 * n) % 2 ^ 8 = m by omega] at h2
  omega
def zb1 (a : Nat) : Nat := a - (a / 2 &&& 85)
def zb2 (a : Nat) : Nat := (zb1 a &&& 51) + (zb1 a / 4 &&& 51)
def zb3 (a : Nat) : Nat := (zb2 a + zb2 a / 16) &&& 15
theorem zb_le : ∀ a, a < 256 → (a / 2 &&& 85) ≤ a ∧ zb1 a < 256 ∧ zb2 a % 16 ≤ 4 ∧ zb2 a / 16 ≤ 4 ∧ zb3 a ≤ 8 := by decide +kernel
theorem zb_1 : ∀ e, e < 2 → ∀ a, a < 256 → (a / 2 + 128 * e) &&& 85 = a / 2 &&& 85 := by decide +kernel
theorem zb_2 : ∀ e, e < 4 → ∀ a, a < 256 → (a / 4 + 64 * e) &&& 51 = a / 4 &&& 51 := by decide +kernel
theorem zb_3 : ∀ e, e < 5 → ∀ a, a < 80 → (a + a / 16 + 16 * e) &&& 15 = (a + a / 16) &&& 15 := by decide +kernel
theorem zcount_add (p : Nat → Bool) (n : Nat) : ∀ k, zcount p (n + k) = zcount p n + zcount (fun i => p (n + i)) k
  | 0 => rfl
  | k + 1 => by
    show zcount p (n + k) + _ = zcount p n + (zcount (fun i => p (n + i)) k + _)
    rw [zcount_add p n k, Nat.add_assoc]
    rfl
theorem zb_c : ∀ a, a < 256 → zcount (fun i => a.testBit i) 8 = zb3 a := by decide +kernel
theorem zcount_8 (s k : Nat) : zcount (fun i => s.testBit i) (8 + k) = zb3 (s % 256) + zcount (fun i => (s / 256).testBit i) k := by
  rw [zcount_add, ← zb_c _ (Nat.mod_lt _ (by decide))]
  congr 1
  · refine zcount_cg 8 fun i hi => ?_
    rw [show (256 : Nat) = 2 ^ 8 from rfl, Nat.testBit_mod_two_pow, decide_eq_true hi, Bool.true_and]
  · refine zcount_cg k fun i hi => ?_
    rw [Nat.add_comm, Nat.testBit_add]
theorem zswar {a b c d : Nat} (ha : a < 256) (hb : b < 256) (hc : c < 256) (hd : d < 256) :
    ∃ w1 w2 w3, w1 = (a + 256 * (b + 256 * (c + 256 * d))) - ((a + 256 * (b + 256 * (c + 256 * d))) / 2 &&& 1431655765) ∧ ((a + 256 * (b + 256 * (c + 256 * d))) / 2 &&& 1431655765) ≤ a + 256 * (b + 256 * (c + 256 * d)) ∧
      w2 = (w1 &&& 858993459) + (w1 / 4 &&& 858993459) ∧ w3 = (w2 + w2 / 16) &&& 252645135 ∧ w3 = zb3 a + 256 * (zb3 b + 256 * (zb3 c + 256 * zb3 d)) ∧ w2 < 1200000000 := by
  have m1 : 1431655765 = 85 + 256 * (85 + 256 * (85 + 256 * 85)) := rfl
  have m2 : 858993459 = 51 + 256 * (51 + 256 * (51 + 256 * 51)) := rfl
  have m3 : 252645135 = 15 + 256 * (15 + 256 * (15 + 256 * 15)) := rfl
  obtain ⟨a1, a2, a3, a4, a5⟩ := zb_le a ha
  obtain ⟨b1, b2, b3, b4, b5⟩ := zb_le b hb
  obtain ⟨c1, c2, c3, c4, c5⟩ := zb_le c hc
  obtain ⟨d1, d2, d3, d4, d5⟩ := zb_le d hd
  have e1 : (a + 256 * (b + 256 * (c + 256 * d))) / 2 &&& 1431655765 = (a / 2 &&& 85) + 256 * ((b / 2 &&& 85) + 256 * ((c / 2 &&& 85) + 256 * (d / 2 &&& 85))) := by
    rw [show (a + 256 * (b + 256 * (c + 256 * d))) / 2 = (a / 2 + 128 * (b % 2)) + 256 * ((b / 2 + 128 * (c % 2)) + 256 * ((c / 2 + 128 * (d % 2)) + 256 * (d / 2))) by omega, m1]
    rw [zand_l (by omega) (by decide), zand_l (by omega) (by decide), zand_l (by omega) (by decide), zb_1 _ (by omega) _ ha, zb_1 _ (by omega) _ hb, zb_1 _ (by omega) _ hc]
  have f1 : (a + 256 * (b + 256 * (c + 256 * d))) - ((a + 256 * (b + 256 * (c + 256 * d))) / 2 &&& 1431655765) = zb1 a + 256 * (zb1 b + 256 * (zb1 c + 256 * zb1 d)) := by
    rw [e1]; unfold zb1; omega
  have f2 : ((zb1 a + 256 * (zb1 b + 256 * (zb1 c + 256 * zb1 d))) &&& 858993459) + ((zb1 a + 256 * (zb1 b + 256 * (zb1 c + 256 * zb1 d))) / 4 &&& 858993459) = zb2 a + 256 * (zb2 b + 256 * (zb2 c + 256 * zb2 d)) := by
    rw [show (zb1 a + 256 * (zb1 b + 256 * (zb1 c + 256 * zb1 d))) / 4 = (zb1 a / 4 + 64 * (zb1 b % 4)) + 256 * ((zb1 b / 4 + 64 * (zb1 c % 4)) + 256 * ((zb1 c / 4 + 64 * (zb1 d % 4)) + 256 * (zb1 d / 4))) by omega, m2]
    rw [zand_l a2 (by decide), zand_l b2 (by decide), zand_l c2 (by decide), zand_l (by omega) (by decide), zand_l (by omega) (by decide), zand_l (by omega) (by decide), zb_2 _ (by omega) _ a2, zb_2 _ (by omega) _ b2, zb_2 _ (by omega) _ c2]
    unfold zb2
    omega
  have f3 : ((zb2 a + 256 * (zb2 b + 256 * (zb2 c + 256 * zb2 d))) + (zb2 a + 256 * (zb2 b + 256 * (zb2 c + 256 * zb2 d))) / 16) &&& 252645135 = zb3 a + 256 * (zb3 b + 256 * (zb3 c + 256 * zb3 d)) := by
    rw [show (zb2 a + 256 * (zb2 b + 256 * (zb2 c + 256 * zb2 d))) + (zb2 a + 256 * (zb2 b + 256 * (zb2 c + 256 * zb2 d))) / 16 = (zb2 a + zb2 a / 16 + 16 * (zb2 b % 16)) + 256 * ((zb2 b + zb2 b / 16 + 16 * (zb2 c % 16)) + 256 * ((zb2 c + zb2 c / 16 + 16 * (zb2 d % 16)) + 256 * (zb2 d + zb2 d / 16))) by omega, m3]
    rw [zand_l (by omega) (by decide), zand_l (by omega) (by decide), zand_l (by omega) (by decide), zb_3 _ (by omega) _ (by omega), zb_3 _ (by omega) _ (by omega), zb_3 _ (by omega) _ (by omega)]
    rfl
  refine ⟨_, _, _, f1.symm, by rw [e1]; omega, f2.symm, f3.symm, rfl, by omega⟩
set_option maxRecDepth 20000 in
theorem x_bits (σ : qSg) {s : Nat} (hs : s < 2147483648) : qFI 1 368 [qi (nI s)] σ (nI (zpop s)) := by
  obtain ⟨w1, w2, w3, h1, h2, h3, h4, h5, h6⟩ := zswar (a := s % 256) (b := s / 256 % 256) (c := s / 65536 % 256) (d := s / 16777216) (by omega) (by omega) (by omega) (by omega)
  have e : s % 256 + 256 * (s / 256 % 256 + 256 * (s / 65536 % 256 + 256 * (s / 16777216))) = s := by omega
  rw [e] at h1 h2
  have g1 := (zb_le (s % 256) (by omega)).2.2.2.2
  have g2 := (zb_le (s / 256 % 256) (by omega)).2.2.2.2
  have g3 := (zb_le (s / 65536 % 256) (by omega)).2.2.2.2
  have g4 := (zb_le (s / 16777216) (by omega)).2.2.2.2
  have hz : zpop s = zb3 (s % 256) + (zb3 (s / 256 % 256) + (zb3 (s / 65536 % 256) + zb3 (s / 16777216))) := by
    unfold zpop
    rw [zpopf_count, show (32 : Nat) = 8 + 24 from rfl, zcount_8, show (24 : Nat) = 8 + 16 from rfl, zcount_8, show (16 : Nat) = 8 + 8 from rfl, zcount_8, zb_c _ (by omega)]
    rw [Nat.div_div_eq_div_mul, Nat.div_div_eq_div_mul]
  refine qCI.of [some (qi (nI s))] ok_368 (Nat.le_of_ble_eq_true rfl) rfl ?_
  refine qV.go 30 [9999] ok_368 ?_
  simp only [qW_nop, qW_iconst, qW_bipush, qW_ldcw, qW_iloadn, qW_istoren, qW_iadd, qW_isub, qW_iand, qW_iushr, qW_iret0, Nat.reduceAdd, Nat.reduceMul, Nat.reduceBEq, Nat.reduceEqDiff, Nat.reduceLT, Nat.reduceLeDiff, Nat.zero_le, nI_add, nI_mul, nI_cl, qin_eq, qofI, qlg_0, qlg_s, qls_i0, qls_r0, qls_l0, qls_1, qls_2, qkl_i, qkl_r, qkl_l, qkl_n, qIsI_i, qIsL_l, qIsR_r, qint_i, qil_i, qil_r, qil_l, qf4_0, qf4_1, qf4_2, qf4_3, qf2_0, qf2_1, qcs_n, qcs_i, qcs_r, qcs_l, qst_n, qst_c, qJ_0, qJ_st, qJ_go, qfl_I, qfl_Z, qfl_L, qfl_R, qrI_i, qrL_l, qrV_v, qRcv_0, qRcv_s, eq_self, true_and, and_true, true_or, or_true, false_and, and_false, false_or, or_false, ite_true, if_true, if_false, Bool.true_or, Bool.false_or, Bool.or_false, beq_self_eq_true, Bool.false_eq_true, bJ6_bitCount_0f7a4_0, kJ6_bitCount_0f7a4_0]
  rw [nI_ushr (k := 1) (by decide) hs, show s / 2 ^ 1 = s / 2 from rfl, nI_and, nI_sub h2, ← h1]
  rw [nI_ushr (k := 2) (by decide) (by omega), show w1 / 2 ^ 2 = w1 / 4 from rfl, nI_and, nI_and, nI_add, ← h3]
  rw [nI_ushr (k := 4) (by decide) (by omega), show w2 / 2 ^ 4 = w2 / 16 from rfl, nI_add, nI_and, ← h4]
  rw [nI_ushr (k := 8) (by decide) (by omega), show w3 / 2 ^ 8 = w3 / 256 from rfl, nI_add]
  rw [nI_ushr (k := 16) (by decide) (by omega), show (w3 + w3 / 256) / 2 ^ 16 = (w3 + w3 / 256) / 65536 from rfl, nI_add, nI_and]
  have e63 : (w3 + w3 / 256 + (w3 + w3 / 256) / 65536) &&& 63 = (w3 + w3 / 256 + (w3 + w3 / 256) / 65536) % 64 := Nat.and_two_pow_sub_one_eq_mod _ 6
  refine congrArg nI ?_
  rw [e63, hz]
  clear hz h1 h2 h3 h4 e e63 h6
  generalize zb3 (s % 256) = A at *
  generalize zb3 (s / 256 % 256) = B at *
  generalize zb3 (s / 65536 % 256) = D at *
  generalize zb3 (s / 16777216) = F at *
  have k1 : w3 / 256 = B + 256 * (D + 256 * F) := by omega
  have k2 : (w3 + w3 / 256) / 65536 = D + F + 256 * F := by rw [k1, h5]; omega
  rw [k2, k1, h5]
  omega
