/-! the reference: names, faults, what must stand -/
def zcg (b d : Nat) (l : List Nat) : Nat := l.foldl (fun v c => v * b + (c - d)) 0
theorem zcg_snoc (b d : Nat) (l : List Nat) (c : Nat) : zcg b d (l ++ [c]) = zcg b d l * b + (c - d) := by
  unfold zcg
  rw [List.foldl_append]
  rfl
theorem zsnoc (l : List Nat) : l = [] ∨ ∃ L c, l = L ++ [c] := by
  rcases List.eq_nil_or_concat l with h | ⟨L, c, h⟩
  · exact Or.inl h
  · exact Or.inr ⟨L, c, by rw [h, List.concat_eq_append]⟩
theorem zcg_inj {b d : Nat} (hbd : ∀ c, zsm c = true → d < c ∧ c - d < b) : ∀ n l l', l.length = n → (∀ c, c ∈ l → zsm c = true) → (∀ c, c ∈ l' → zsm c = true) → zcg b d l = zcg b d l' → l = l'
  | 0, l, l', hl, h, h', e => by
    have e0 : l = [] := List.length_eq_zero_iff.mp hl
    subst e0
    rcases zsnoc l' with rfl | ⟨L, c, rfl⟩
    · rfl
    · rw [zcg_snoc] at e
      have hc := hbd c (h' c (by simp))
      have e : 0 = zcg b d L * b + (c - d) := e
      omega
  | n + 1, l, l', hl, h, h', e => by
    rcases zsnoc l with rfl | ⟨L, c, rfl⟩
    · simp at hl
    · have hc := hbd c (h c (by simp))
      rcases zsnoc l' with rfl | ⟨L', c', rfl⟩
      · rw [zcg_snoc] at e
        have e : zcg b d L * b + (c - d) = 0 := e
        omega
      · have hc' := hbd c' (h' c' (by simp))
        rw [zcg_snoc, zcg_snoc] at e
        have m1 : (zcg b d L * b + (c - d)) % b = c - d := by
          rw [Nat.mul_comm, Nat.mul_add_mod, Nat.mod_eq_of_lt hc.2]
        have m2 : (zcg b d L' * b + (c' - d)) % b = c' - d := by
          rw [Nat.mul_comm, Nat.mul_add_mod, Nat.mod_eq_of_lt hc'.2]
        have ec : c - d = c' - d := by rw [← m1, ← m2, e]
        have e2 : zcg b d L * b = zcg b d L' * b := by omega
        have e3 : zcg b d L = zcg b d L' := Nat.eq_of_mul_eq_mul_right (by omega) e2
        have := zcg_inj hbd n L L' (by simpa using hl) (fun x hx => h x (by simp [hx])) (fun x hx => h' x (by simp [hx])) e3
        rw [this, show c = c' by omega]
theorem zcg_lt {b d : Nat} (hb : 0 < b) (hbd : ∀ c, zsm c = true → d < c ∧ c - d < b) : ∀ n l, l.length = n → (∀ c, c ∈ l → zsm c = true) → zcg b d l < b ^ n
  | 0, l, hl, _ => by
    have e0 : l = [] := List.length_eq_zero_iff.mp hl
    subst e0
    simp [zcg]
  | n + 1, l, hl, h => by
    rcases zsnoc l with rfl | ⟨L, c, rfl⟩
    · simp at hl
    · have hc := hbd c (h c (by simp))
      have ih := zcg_lt hb hbd n L (by simpa using hl) (fun x hx => h x (by simp [hx]))
      rw [zcg_snoc, Nat.pow_succ]
      have : (zcg b d L + 1) * b ≤ b ^ n * b := Nat.mul_le_mul_right b ih
      rw [Nat.add_mul, Nat.one_mul] at this
      omega
theorem zcg_256 : ∀ c, zsm c = true → 0 < c ∧ c - 0 < 256 := fun c h => by
  simp only [zsm, Bool.and_eq_true, decide_eq_true_eq] at h
  omega
theorem zcg_32 : ∀ c, zsm c = true → 96 < c ∧ c - 96 < 32 := fun c h => by
  simp only [zsm, Bool.and_eq_true, decide_eq_true_eq] at h
  omega
/-- a name as the reference keeps it -/
def zcr2 (w : List Nat) : Int64 := lN (zcg 256 0 w)
theorem lN_inj {a b : Nat} (ha : a < 18446744073709551616) (hb : b < 18446744073709551616) (h : lN a = lN b) : a = b := by
  have h1 : (lN a).toBitVec.toNat = (lN b).toBitVec.toNat := by rw [h]
  have e1 : (lN a).toBitVec = BitVec.ofNat 64 a := rfl
  have e2 : (lN b).toBitVec = BitVec.ofNat 64 b := rfl
  rw [e1, e2, BitVec.toNat_ofNat, BitVec.toNat_ofNat, Nat.mod_eq_of_lt (by simpa using ha), Nat.mod_eq_of_lt (by simpa using hb)] at h1
  exact h1
theorem zcr2_eq {w w' : List Nat} (h : zNm w) (h' : zNm w') : (zcr2 w = zcr2 w') = (w = w') := by
  apply propext
  constructor
  · intro e
    unfold zcr2 at e
    have b1 : zcg 256 0 w < 18446744073709551616 := Nat.lt_of_lt_of_le (zcg_lt (by decide) zcg_256 w.length w rfl h.2) (Nat.le_trans (Nat.pow_le_pow_right (by decide) h.1) (Nat.le_of_ble_eq_true rfl : 256 ^ 8 ≤ 18446744073709551616))
    have b2 : zcg 256 0 w' < 18446744073709551616 := Nat.lt_of_lt_of_le (zcg_lt (by decide) zcg_256 w'.length w' rfl h'.2) (Nat.le_trans (Nat.pow_le_pow_right (by decide) h'.1) (Nat.le_of_ble_eq_true rfl : 256 ^ 8 ≤ 18446744073709551616))
    exact zcg_inj zcg_256 w.length w w' rfl h.2 h'.2 (lN_inj b1 b2 e)
  · intro e
    rw [e]
theorem lN_or (v c : Nat) (hc : c < 256) : (lN v <<< ((nI 8).toInt64 &&& 63)) ||| (nI c).toInt64 = lN (v * 256 + c) := by
  have h1 : (((nI 8).toInt64 &&& 63).toBitVec.smod 64).toNat = 8 := by decide
  have h2 : ∀ c, c < 256 → (nI c).toInt64 = lN c := by decide +kernel
  rw [h2 c hc]
  apply Int64.toBitVec_inj.mp
  show ((lN v).toBitVec <<< ((nI 8).toInt64 &&& 63).toBitVec.smod 64) ||| (lN c).toBitVec = (lN (v * 256 + c)).toBitVec
  rw [BitVec.shiftLeft_eq', h1]
  have e1 : (lN v).toBitVec = BitVec.ofNat 64 v := rfl
  have e2 : (lN c).toBitVec = BitVec.ofNat 64 c := rfl
  have e3 : (lN (v * 256 + c)).toBitVec = BitVec.ofNat 64 (v * 256 + c) := rfl
  rw [e1, e2, e3]
  apply BitVec.eq_of_getLsbD_eq
  intro i hi
  rw [BitVec.getLsbD_or, BitVec.getLsbD_shiftLeft, BitVec.getLsbD_ofNat, BitVec.getLsbD_ofNat, BitVec.getLsbD_ofNat, show v * 256 + c = 2 ^ 8 * v + c by omega, Nat.testBit_two_pow_mul_add v (show c < 2 ^ 8 from hc) i]
  by_cases h8 : i < 8
  · simp [hi, h8]
  · have : c.testBit i = false := Nat.testBit_lt_two_pow (Nat.lt_of_lt_of_le hc (Nat.pow_le_pow_right (n := 2) (by decide) (show 8 ≤ i by omega)))
    simp [hi, h8, this]
    intro _
    omega
-- what stands while a text is read
def zPd (σ : qSg) (B : Nat → Nat) (n p : Nat) : Prop := zTk σ B n p ∧ σ.1 139 18 = nI 0 ∧ σ.1 139 17 = iI (-1)
def zFl (σ : qSg) (e : Nat × Nat) : Prop := σ.1 139 18 = nI e.1 ∧ σ.1 139 17 = nI e.2
def zPo {α : Type} (R : zR α) (r : Int32) (σ' : qSg) (G : α → Prop) : Prop :=
  match R with
  | .inl e => r = nI 0 ∧ zFl σ' e
  | .inr a => r = nI 1 ∧ G a
theorem zPo_l {α : Type} {R : zR α} {e : Nat × Nat} {r : Int32} {σ' : qSg} {G : α → Prop} (h : R = .inl e) (h1 : r = nI 0) (h2 : zFl σ' e) : zPo R r σ' G := by
  subst h
  exact ⟨h1, h2⟩
theorem zPo_r {α : Type} {R : zR α} {a : α} {r : Int32} {σ' : qSg} {G : α → Prop} (h : R = .inr a) (h1 : r = nI 1) (h2 : G a) : zPo R r σ' G := by
  subst h
  exact ⟨h1, h2⟩
theorem zPo_c {α : Type} {R : zR α} {r : Int32} {σ' : qSg} {G : α → Prop} (h : zPo R r σ' G) : (∃ e, R = .inl e ∧ r = nI 0 ∧ zFl σ' e) ∨ ∃ a, R = .inr a ∧ r = nI 1 ∧ G a := by
  unfold zPo at h
  split at h
  · exact Or.inl ⟨_, rfl, h⟩
  · exact Or.inr ⟨_, rfl, h⟩
def zPw (a j : Nat) : Prop := a = 139 ∧ (j = 12 ∨ j = 13 ∨ j = 14 ∨ j = 15 ∨ j = 18 ∨ j = 17)
theorem zPa_w {σ σ' : qSg} (f : zF zPa σ σ') : zF zPw σ σ' := f.wk fun a j h => by unfold zPa at h; unfold zPw; omega
theorem zPd.ahead {σ σ' : qSg} {B : Nat → Nat} {n p q : Nat} (h : zPd σ B n p) (f : zF zPa σ σ') (t : zTk σ' B n q) : zPd σ' B n q := by
  refine ⟨t, ?_, ?_⟩
  · rw [f.1 _ _ (by unfold zPa; omega)]; exact h.2.1
  · rw [f.1 _ _ (by unfold zPa; omega)]; exact h.2.2
set_option maxRecDepth 20000 in
theorem m_fails {σ : qSg} {B : Nat → Nat} {n p : Nat} (h : zPd σ B n p) {f : Nat} : qCI 1 234 [qr 139, qi (nI f)] σ (fun r σ' => r = nI 0 ∧ zFl σ' (zno B p f) ∧ zF zPw σ σ') := by
  obtain ⟨⟨-, h1, h2, -, -⟩, h3, h4⟩ := h
  have hk5 := tkK_lt B p
  refine qCI.of [some (qr 139), some (qi (nI f))] ok_234 (Nat.le_of_ble_eq_true rfl) rfl ?_
  refine qV.go 30 [9999] ok_234 ?_
  simp only [qW_nop, qW_iconst, qW_iloadn, qW_aloadn, qW_ifne, qW_icne, qW_goto, qW_getf, qW_iret1, qW_putf0, Nat.reduceAdd, Nat.reduceMul, Nat.reduceBEq, Nat.reduceEqDiff, Nat.reduceLT, Nat.reduceLeDiff, Nat.zero_le, nI_add, nI_mul, nI_cl, qin_eq, qofI, qlg_0, qlg_s, qls_i0, qls_r0, qls_l0, qls_1, qls_2, qkl_i, qkl_r, qkl_l, qkl_n, qIsI_i, qIsL_l, qIsR_r, qint_i, qil_i, qil_r, qil_l, qf4_0, qf4_1, qf4_2, qf4_3, qf2_0, qf2_1, qcs_n, qcs_i, qcs_r, qcs_l, qst_n, qst_c, qJ_0, qJ_st, qJ_go, qfl_I, qfl_Z, qfl_L, qfl_R, qrI_i, qrL_l, qrV_v, qRcv_0, qRcv_s, eq_self, true_and, and_true, true_or, or_true, false_and, and_false, false_or, or_false, ite_true, if_true, if_false, Bool.true_or, Bool.false_or, Bool.or_false, beq_self_eq_true, Bool.false_eq_true, bX12_fails_0, bX12_fails_20, bX12_fails_21, bX12_fails_32, kX12_fails_0, kX12_fails_20, kX12_fails_21, kX12_fails_32, qK_139, qR_139_0, qK_140, qR_139_1, qK_141, qR_139_5, qK_142, qR_139_6, qK_143, qR_139_7, qK_144, qR_139_8, qK_145, qR_139_9, qK_146, qR_139_21, qK_147, qR_139_25, qK_148, qR_139_30, qK_149, qR_139_31, qK_150, qR_139_33, qK_151, qR_139_34, qK_152, qR_139_35, qK_153, qR_139_36, qK_154, qR_139_39, qK_155, qR_139_40, qK_156, qR_139_41, qK_157]
  rw [h3, h1]
  simp (disch := omega) only [nI_leI, nI_ltI, nI_eq, nI_cl, qin_eq, nI_add, nI_mul, qb_z, qb_t, qb_f, nI_ne0', Nat.reduceAdd, Bool.false_eq_true, if_false, if_true, true_and, and_true, Nat.reduceEqDiff, not_true_eq_false, not_false_eq_true, false_implies, true_implies, ite_true, ite_false]
  refine ⟨fun e => ?_, fun e => ?_⟩
  · refine ⟨⟨?_, ?_⟩, (zF.wi ⟨rfl, by decide⟩).tr (zF.wi ⟨rfl, by decide⟩)⟩
    · rw [qwi_1, if_neg (by decide), qwi_1, if_pos ⟨rfl, rfl⟩]
      unfold zno
      rw [if_neg e]
    · rw [qwi_1, if_pos ⟨rfl, rfl⟩, qwi_1, if_neg (by decide), h2]
      rfl
  · refine ⟨⟨?_, ?_⟩, (zF.wi ⟨rfl, by decide⟩).tr (zF.wi ⟨rfl, by decide⟩)⟩
    · rw [qwi_1, if_neg (by decide), qwi_1, if_pos ⟨rfl, rfl⟩]
      unfold zno
      rw [if_pos e]
    · rw [qwi_1, if_pos ⟨rfl, rfl⟩, qwi_1, if_neg (by decide), h2]
      rfl
theorem m_next {σ : qSg} {B : Nat → Nat} {n p : Nat} (hB : zBW B n) (hp : p ≤ n) (h : zPd σ B n p) : qCV 2 231 [qr 139] σ (fun σ' => zPd σ' B n (tkE B p) ∧ zF zPa σ σ') := by
  obtain ⟨hg, hm⟩ := m_ahead hB h.1.1 (tkE_spec hB hp).2.2.1 h.1.2.2.2.1
  refine ⟨hg, fun l E => MetFree.mono (hm l E) (fun _ _ x => x) (fun _ _ _ _ _ _ => trivial) (fun a s o t _ hQ => ?_)⟩
  obtain ⟨⟨⟨σ', h1, h2, h3⟩, h4⟩, h5⟩ := hQ
  exact ⟨⟨⟨σ', h1, ⟨h.ahead h2.2 h2.1, h2.2⟩, h3⟩, h4⟩, h5⟩
set_option maxRecDepth 20000 in
theorem m_isSign {σ : qSg} {B : Nat → Nat} {n p : Nat} (hB : zBW B n) (h : zTk σ B n p) {c : Nat} (hc : c < 1000) : qFI 1 232 [qr 139, qi (nI c)] σ (qb (decide (tkK B p = 4 ∧ tkV B p = c))) := by
  obtain ⟨-, h1, -, -, h4⟩ := h
  have hk5 := tkK_lt B p
  refine qCI.of [some (qr 139), some (qi (nI c))] ok_232 (Nat.le_of_ble_eq_true rfl) rfl ?_
  refine qV.go 30 [9999] ok_232 ?_
  simp only [qW_nop, qW_iconst, qW_iloadn, qW_aloadn, qW_icne, qW_goto, qW_getf, qW_iret1, Nat.reduceAdd, Nat.reduceMul, Nat.reduceBEq, Nat.reduceEqDiff, Nat.reduceLT, Nat.reduceLeDiff, Nat.zero_le, nI_add, nI_mul, nI_cl, qin_eq, qofI, qlg_0, qlg_s, qls_i0, qls_r0, qls_l0, qls_1, qls_2, qkl_i, qkl_r, qkl_l, qkl_n, qIsI_i, qIsL_l, qIsR_r, qint_i, qil_i, qil_r, qil_l, qf4_0, qf4_1, qf4_2, qf4_3, qf2_0, qf2_1, qcs_n, qcs_i, qcs_r, qcs_l, qst_n, qst_c, qJ_0, qJ_st, qJ_go, qfl_I, qfl_Z, qfl_L, qfl_R, qrI_i, qrL_l, qrV_v, qRcv_0, qRcv_s, eq_self, true_and, and_true, true_or, or_true, false_and, and_false, false_or, or_false, ite_true, if_true, if_false, Bool.true_or, Bool.false_or, Bool.or_false, beq_self_eq_true, Bool.false_eq_true, bX12_isSign_0, bX12_isSign_20, bX12_isSign_21, kX12_isSign_0, kX12_isSign_20, kX12_isSign_21, qK_139, qR_139_0, qK_140, qR_139_1, qK_141, qR_139_5, qK_142, qR_139_6, qK_143, qR_139_7, qK_144, qR_139_8, qK_145, qR_139_9, qK_146, qR_139_21, qK_147, qR_139_25, qK_148, qR_139_30, qK_149, qR_139_31, qK_150, qR_139_33, qK_151, qR_139_34, qK_152, qR_139_35, qK_153, qR_139_36, qK_154, qR_139_39, qK_155, qR_139_40, qK_156, qR_139_41, qK_157]
  rw [h1]
  simp (disch := omega) only [nI_leI, nI_ltI, nI_eq, nI_cl, qin_eq, nI_add, nI_mul, qb_z, qb_t, qb_f, nI_ne0', Nat.reduceAdd, Bool.false_eq_true, if_false, if_true, true_and, and_true, Nat.reduceEqDiff, not_true_eq_false, not_false_eq_true, false_implies, true_implies, ite_true, ite_false]
  by_cases e : tkK B p = 4
  · have hv : tkV B p < 1000 := by rw [tkV_s (by omega)]; exact zB_k hB _
    rw [h4 (Or.inr e)]
    simp (disch := omega) only [nI_leI, nI_ltI, nI_eq, nI_cl, qin_eq, nI_add, nI_mul, qb_z, qb_t, qb_f, nI_ne0', Nat.reduceAdd, Bool.false_eq_true, if_false, if_true, true_and, and_true, Nat.reduceEqDiff, not_true_eq_false, not_false_eq_true, false_implies, true_implies, ite_true, ite_false]
    by_cases e2 : tkV B p = c <;> simp [e, e2, qb]
  · simp [e, qb]
set_option maxRecDepth 20000 in
theorem m_wantSign {σ : qSg} {B : Nat → Nat} {n p : Nat} (hB : zBW B n) (hp : p ≤ n) (h : zPd σ B n p) {c : Nat} (hc : c < 1000) : qCI 3 236 [qr 139, qi (nI c)] σ (fun r σ' => zPo (zpS B c p) r σ' (fun q => zPd σ' B n q) ∧ zF zPw σ σ') := by
  refine qCI.of [some (qr 139), some (qi (nI c))] ok_236 (Nat.le_of_ble_eq_true rfl) rfl ?_
  refine qV.go 30 [9999] ok_236 ?_
  simp only [qW_nop, qW_iconst, qW_iloadn, qW_aloadn, qW_ifne, qW_cv1_2, qW_cv2_0, qW_iret1, Nat.reduceAdd, Nat.reduceMul, Nat.reduceBEq, Nat.reduceEqDiff, Nat.reduceLT, Nat.reduceLeDiff, Nat.zero_le, nI_add, nI_mul, nI_cl, qin_eq, qofI, qlg_0, qlg_s, qls_i0, qls_r0, qls_l0, qls_1, qls_2, qkl_i, qkl_r, qkl_l, qkl_n, qIsI_i, qIsL_l, qIsR_r, qint_i, qil_i, qil_r, qil_l, qf4_0, qf4_1, qf4_2, qf4_3, qf2_0, qf2_1, qcs_n, qcs_i, qcs_r, qcs_l, qst_n, qst_c, qJ_0, qJ_st, qJ_go, qfl_I, qfl_Z, qfl_L, qfl_R, qrI_i, qrL_l, qrV_v, qRcv_0, qRcv_s, eq_self, true_and, and_true, true_or, or_true, false_and, and_false, false_or, or_false, ite_true, if_true, if_false, Bool.true_or, Bool.false_or, Bool.or_false, beq_self_eq_true, Bool.false_eq_true, bX12_wantSign_0, bX12_wantSign_14, kX12_wantSign_0, kX12_wantSign_14, qK_139, qR_139_0, qK_140, qR_139_1, qK_141, qR_139_5, qK_142, qR_139_6, qK_143, qR_139_7, qK_144, qR_139_8, qK_145, qR_139_9, qK_146, qR_139_21, qK_147, qR_139_25, qK_148, qR_139_30, qK_149, qR_139_31, qK_150, qR_139_33, qK_151, qR_139_34, qK_152, qR_139_35, qK_153, qR_139_36, qK_154, qR_139_39, qK_155, qR_139_40, qK_156, qR_139_41, qK_157]
  refine qBI.fn (m_isSign hB h.1 hc) (by decide) ?_
  simp (disch := omega) only [nI_leI, nI_ltI, nI_eq, nI_cl, qin_eq, nI_add, nI_mul, qb_z, qb_t, qb_f, nI_ne0', Nat.reduceAdd, Bool.false_eq_true, if_false, if_true, true_and, and_true, Nat.reduceEqDiff, not_true_eq_false, not_false_eq_true, false_implies, true_implies, ite_true, ite_false]
  by_cases e : tkK B p = 4 ∧ tkV B p = c
  · have e1 : zpS B c p = .inr (tkE B p) := by unfold zpS; rw [if_pos e]
    refine ⟨fun _ => ?_, fun g => absurd e (by simpa using g)⟩
    refine qBV.of (m_next hB hp h) (by decide) (fun σ1 g => ?_)
    exact ⟨zPo_r e1 rfl g.1, zPa_w g.2⟩
  · have e1 : zpS B c p = .inl (zno B p 2) := by unfold zpS; rw [if_neg e]
    refine ⟨fun g => absurd (by simpa using g) e, fun _ => ?_⟩
    refine qBI.of (m_fails h) (by decide) (fun r σ1 g => ?_)
    obtain ⟨rfl, g1, g2⟩ := g
    exact ⟨Or.inl rfl, zPo_l e1 rfl g1, g2⟩
theorem zkI_eq {k y : Nat} (hy : y ≤ 22) (hk : k < 22) : (zkI y = nI k) = (y = k) := by
  unfold zkI
  apply propext
  by_cases h : y < 22
  · rw [if_pos h]
    simp (disch := omega) only [nI_leI, nI_ltI, nI_eq, nI_cl, qin_eq, nI_add, nI_mul, qb_z, qb_t, qb_f, nI_ne0', Nat.reduceAdd, Bool.false_eq_true, if_false, if_true, true_and, and_true, Nat.reduceEqDiff, not_true_eq_false, not_false_eq_true, false_implies, true_implies, ite_true, ite_false]
  · rw [if_neg h, qeq, iI_toInt (by decide) (by decide), nI_t (by omega)]
    omega
set_option maxRecDepth 20000 in
theorem m_wantWord {σ : qSg} {B : Nat → Nat} {n p : Nat} (hB : zBW B n) (hp : p ≤ n) (h : zPd σ B n p) {k : Nat} (hk : k < 22) : qCI 6 237 [qr 139, qr 1000, qi (nI k)] σ (fun r σ' => zPo (zpK B k p) r σ' (fun q => zPd σ' B n q) ∧ zF zPw σ σ') := by
  refine qCI.of [some (qr 139), some (qr 1000), some (qi (nI k))] ok_237 (Nat.le_of_ble_eq_true rfl) rfl ?_
  refine qV.go 30 [9999] ok_237 ?_
  simp only [qW_nop, qW_iconst, qW_iloadn, qW_aloadn, qW_iceq, qW_cv1_2, qW_cv2_0, qW_iret1, Nat.reduceAdd, Nat.reduceMul, Nat.reduceBEq, Nat.reduceEqDiff, Nat.reduceLT, Nat.reduceLeDiff, Nat.zero_le, nI_add, nI_mul, nI_cl, qin_eq, qofI, qlg_0, qlg_s, qls_i0, qls_r0, qls_l0, qls_1, qls_2, qkl_i, qkl_r, qkl_l, qkl_n, qIsI_i, qIsL_l, qIsR_r, qint_i, qil_i, qil_r, qil_l, qf4_0, qf4_1, qf4_2, qf4_3, qf2_0, qf2_1, qcs_n, qcs_i, qcs_r, qcs_l, qst_n, qst_c, qJ_0, qJ_st, qJ_go, qfl_I, qfl_Z, qfl_L, qfl_R, qrI_i, qrL_l, qrV_v, qRcv_0, qRcv_s, eq_self, true_and, and_true, true_or, or_true, false_and, and_false, false_or, or_false, ite_true, if_true, if_false, Bool.true_or, Bool.false_or, Bool.or_false, beq_self_eq_true, Bool.false_eq_true, bX12_wantWord_0, bX12_wantWord_15, kX12_wantWord_0, kX12_wantWord_15, qK_139, qR_139_0, qK_140, qR_139_1, qK_141, qR_139_5, qK_142, qR_139_6, qK_143, qR_139_7, qK_144, qR_139_8, qK_145, qR_139_9, qK_146, qR_139_21, qK_147, qR_139_25, qK_148, qR_139_30, qK_149, qR_139_31, qK_150, qR_139_33, qK_151, qR_139_34, qK_152, qR_139_35, qK_153, qR_139_36, qK_154, qR_139_39, qK_155, qR_139_40, qK_156, qR_139_41, qK_157]
  refine qBI.fn (m_inWords hB hp h.1) (by decide) ?_
  rw [zkI_eq (tkY_le B p) hk]
  refine ⟨fun e => ?_, fun e => ?_⟩
  · refine qBV.of (m_next hB hp h) (by decide) (fun σ1 g => ?_)
    exact ⟨zPo_r (by unfold zpK; rw [if_pos e]) rfl g.1, zPa_w g.2⟩
  · refine qBI.of (m_fails h) (by decide) (fun r σ1 g => ?_)
    obtain ⟨rfl, g1, g2⟩ := g
    exact ⟨Or.inl rfl, zPo_l (by unfold zpK; rw [if_neg e]) rfl g1, g2⟩
def zPto (t a j : Nat) : Prop := zPw a j ∨ (a = 140 ∧ j = t)
set_option maxRecDepth 20000 in
theorem m_number {σ : qSg} {B : Nat → Nat} {n p : Nat} (hB : zBW B n) (hp : p ≤ n) (h : zPd σ B n p) {t lo hi : Nat} (ht : t < 3088) (hlo : lo < 100000) (hhi : hi < 100000) : qCI 3 238 [qr 139, qi (nI t), qi (nI lo), qi (nI hi)] σ (fun r σ' => zPo (zpN B lo hi p) r σ' (fun v => zPd σ' B n v.2 ∧ σ'.1 140 t = nI v.1) ∧ zF (zPto t) σ σ') := by
  have hk5 := tkK_lt B p
  have hw : ∀ {σ1 σ2 : qSg}, zF zPw σ1 σ2 → zF (zPto t) σ1 σ2 := fun f => f.wk fun _ _ h => Or.inl h
  refine qCI.of [some (qr 139), some (qi (nI t)), some (qi (nI lo)), some (qi (nI hi))] ok_238 (Nat.le_of_ble_eq_true rfl) rfl ?_
  refine qV.go 30 [9999] ok_238 ?_
  simp only [qW_nop, qW_iconst, qW_iloadn, qW_aloadn, qW_iceq, qW_iclt, qW_icle, qW_getf, qW_iast, qW_cv1_2, qW_cv2_0, qW_iret1, Nat.reduceAdd, Nat.reduceMul, Nat.reduceBEq, Nat.reduceEqDiff, Nat.reduceLT, Nat.reduceLeDiff, Nat.zero_le, nI_add, nI_mul, nI_cl, qin_eq, qofI, qlg_0, qlg_s, qls_i0, qls_r0, qls_l0, qls_1, qls_2, qkl_i, qkl_r, qkl_l, qkl_n, qIsI_i, qIsL_l, qIsR_r, qint_i, qil_i, qil_r, qil_l, qf4_0, qf4_1, qf4_2, qf4_3, qf2_0, qf2_1, qcs_n, qcs_i, qcs_r, qcs_l, qst_n, qst_c, qJ_0, qJ_st, qJ_go, qfl_I, qfl_Z, qfl_L, qfl_R, qrI_i, qrL_l, qrV_v, qRcv_0, qRcv_s, eq_self, true_and, and_true, true_or, or_true, false_and, and_false, false_or, or_false, ite_true, if_true, if_false, Bool.true_or, Bool.false_or, Bool.or_false, beq_self_eq_true, Bool.false_eq_true, bX12_number_0, bX12_number_14, bX12_number_30, bX12_number_36, kX12_number_0, kX12_number_14, kX12_number_30, kX12_number_36, qK_139, qR_139_0, qK_140, qR_139_1, qK_141, qR_139_5, qK_142, qR_139_6, qK_143, qR_139_7, qK_144, qR_139_8, qK_145, qR_139_9, qK_146, qR_139_21, qK_147, qR_139_25, qK_148, qR_139_30, qK_149, qR_139_31, qK_150, qR_139_33, qK_151, qR_139_34, qK_152, qR_139_35, qK_153, qR_139_36, qK_154, qR_139_39, qK_155, qR_139_40, qK_156, qR_139_41, qK_157]
  rw [h.1.2.1]
  simp (disch := omega) only [nI_leI, nI_ltI, nI_eq, nI_cl, qin_eq, nI_add, nI_mul, qb_z, qb_t, qb_f, nI_ne0', Nat.reduceAdd, Bool.false_eq_true, if_false, if_true, true_and, and_true, Nat.reduceEqDiff, not_true_eq_false, not_false_eq_true, false_implies, true_implies, ite_true, ite_false]
  refine ⟨fun e => ?_, fun e => ?_⟩
  · have hv := tkV_lt hB hp e
    rw [h.1.2.2.2.2 (Or.inl e)]
    simp (disch := omega) only [nI_leI, nI_ltI, nI_eq, nI_cl, qin_eq, nI_add, nI_mul, qb_z, qb_t, qb_f, nI_ne0', Nat.reduceAdd, Bool.false_eq_true, if_false, if_true, true_and, and_true, Nat.reduceEqDiff, not_true_eq_false, not_false_eq_true, false_implies, true_implies, ite_true, ite_false]
    have bad : (tkV B p < lo ∨ hi < tkV B p) → qBI 3 234 [qr 139, qi (nI 4)] σ (fun r σ' => (r = nI 0 ∨ r = nI 1) ∧ zPo (zpN B lo hi p) r σ' (fun v => zPd σ' B n v.2 ∧ σ'.1 140 t = nI v.1) ∧ zF (zPto t) σ σ') := fun hb => by
      refine qBI.of (m_fails h) (by decide) (fun r σ1 g => ?_)
      obtain ⟨rfl, g1, g2⟩ := g
      exact ⟨Or.inl rfl, zPo_l (by unfold zpN; rw [if_neg (by omega), if_pos hb]) rfl g1, hw g2⟩
    refine ⟨fun e1 => bad (Or.inl e1), fun e1 => ⟨fun e2 => ?_, fun e2 => bad (Or.inr (by omega))⟩⟩
    have h' : zPd (qwi σ 140 t (nI (tkV B p))) B n p := by
      obtain ⟨⟨t1, t2, t3, t4, t5⟩, t6, t7⟩ := h
      refine ⟨⟨⟨fun k hk => ?_, ?_⟩, ?_, ?_, ?_, fun hh => ?_⟩, ?_, ?_⟩
      · rw [qwi_1, if_neg (by omega)]; exact t1.1 k hk
      all_goals rw [qwi_1, if_neg (by omega)]
      · exact t1.2
      · exact t2
      · exact t3
      · exact t4
      · exact t5 hh
      · exact t6
      · exact t7
    refine qBV.of (m_next hB hp h') (by decide) (fun σ1 g => ?_)
    refine ⟨zPo_r (a := (tkV B p, tkE B p)) (by unfold zpN; rw [if_neg (by omega), if_neg (by omega)]) rfl ⟨g.1, ?_⟩, ?_⟩
    · rw [g.2.1 _ _ (by unfold zPa; omega), qwi_1, if_pos ⟨rfl, rfl⟩]
    · exact (zF.wi (Or.inr ⟨rfl, rfl⟩)).tr (hw (zPa_w g.2))
  · refine qBI.of (m_fails h) (by decide) (fun r σ1 g => ?_)
    obtain ⟨rfl, g1, g2⟩ := g
    exact ⟨Or.inl rfl, zPo_l (by unfold zpN; rw [if_pos e]) rfl g1, hw g2⟩
