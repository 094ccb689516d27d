/-! constructors: trays, the text with its words -/
def kL8 (E : qE) (q : Nat) (a : Nat → Nat) (f : Nat → Int32) : va_W := [(q, .inr (8, [.ref (a 1), .ref (a 2), .ref (a 3)])), (a 1, .inl (E.2.2.1 0, 4, .inl f)), (a 2, .inl (E.2.2.1 0, 4, .inl fun _ => 0)), (a 3, .inl (E.2.2.1 1, 240, .inr (.inl fun _ => 0)))]
set_option maxRecDepth 20000 in
theorem k_Trays (E : qE) (q : Nat) : kC 2 108 3 248 E [.ref q] [(q, .inr (8, kdf 8))] (fun w => ∃ a f, (∀ j, j < 4 → f j = iI (-1)) ∧ w = kL8 E q a f) := by
  refine kC.of (by decide +kernel) (Nat.le_of_ble_eq_true rfl) (fun A => ?_)
  refine kV.al (n := 0) (i := 0) 0 (by decide +kernel) rfl rfl ?_
  refine kV.oi (i := 3) (by decide +kernel) (h := 477) (by decide +kernel) (by decide) ?_
  refine kV.al (n := 0) (i := 0) 0 (by decide +kernel) rfl rfl ?_
  refine kV.ic (n := 4) (nI 4) (by decide +kernel) rfl ?_
  refine kV.aI 4 (by decide +kernel) (h := 390) (by decide +kernel) (by decide +kernel) rfl rfl (Nat.le_of_ble_eq_true rfl) (Nat.le_of_ble_eq_true rfl) (fun q6 => ?_)
  refine kV.pf (i := 9) 0 (by decide +kernel) (by decide) rfl (by decide) (Nat.le_of_ble_eq_true rfl) (h := 478) (by decide +kernel) rfl (.inl rfl) rfl rfl ?_
  refine kV.al (n := 0) (i := 0) 0 (by decide +kernel) rfl rfl ?_
  refine kV.ic (n := 4) (nI 4) (by decide +kernel) rfl ?_
  refine kV.aI 4 (by decide +kernel) (h := 390) (by decide +kernel) (by decide +kernel) rfl rfl (Nat.le_of_ble_eq_true rfl) (Nat.le_of_ble_eq_true rfl) (fun q13 => ?_)
  refine kV.pf (i := 15) 1 (by decide +kernel) (by decide) rfl (by decide) (Nat.le_of_ble_eq_true rfl) (h := 479) (by decide +kernel) rfl (.inl rfl) rfl rfl ?_
  refine kV.al (n := 0) (i := 0) 0 (by decide +kernel) rfl rfl ?_
  refine kV.sp (n := 240) (nI 240) (by decide +kernel) (by decide +kernel) ?_
  refine kV.aL 240 (by decide +kernel) (h := 389) (by decide +kernel) (by decide +kernel) rfl rfl (Nat.le_of_ble_eq_true rfl) (Nat.le_of_ble_eq_true rfl) (fun q22 => ?_)
  refine kV.pf (i := 18) 2 (by decide +kernel) (by decide) rfl (by decide) (Nat.le_of_ble_eq_true rfl) (h := 480) (by decide +kernel) rfl (.inl rfl) rfl rfl ?_
  refine kV.ic (n := 0) (nI 0) (by decide +kernel) rfl ?_
  refine kV.is (n := 1) (i := 1) (lo' := [(1, .int (nI 0)), (0, .ref q)]) (by decide +kernel) rfl (by decide) rfl ?_
  refine qdown (n := 4) (P := fun i => ∀ f : Nat → Int32, (∀ j, j < i → f j = iI (-1)) → kV 108 E A (fun w => ∃ a f, (∀ j, j < 4 → f j = iI (-1)) ∧ w = kL8 E q a f) 2 3 248 3 248 29 [(1, .int (nI i)), (0, .ref q)] [] (kL8 E q (fun i => [q, q6, q13, q22].getD i 0) f)) (fun i hi ih => ?_) 0 (Nat.zero_le _) (fun _ => 0) (fun j hj => absurd hj (Nat.not_lt_zero _))
  intro f hf
  refine kV.il (n := 1) (i := 1) 0 (by decide +kernel) rfl rfl ?_
  refine kV.ic (n := 4) (nI 4) (by decide +kernel) rfl ?_
  refine kV.ge 47 (off := 16) (by decide +kernel) rfl (fun h => ?_) (fun h => ?_)
  · rw [nI_leI (by omega) (by omega)] at h
    exact kV.rt (by decide +kernel) rfl (Nat.le_refl _) (Nat.le_refl _) ⟨_, f, fun j hj => hf j (by omega), rfl⟩
  · rw [nI_leI (by omega) (by omega)] at h
    refine kV.al (n := 0) (i := 0) 1 (by decide +kernel) rfl rfl ?_
    refine kV.gf (i := 9) 0 _ (by decide +kernel) (by decide) rfl (by decide) rfl (h := 478) (by decide +kernel) rfl ?_
    refine kV.il (n := 1) (i := 1) 0 (by decide +kernel) rfl rfl ?_
    refine kV.ic (n := -1) (iI (-1)) (by decide +kernel) rfl ?_
    refine kV.ia 1 (by decide +kernel) rfl (qin_n (n := 4) (by omega) (by omega)) ?_
    refine kV.ii (i := 1) (n := 1) (v := nI (i + 1)) (lo' := [(1, .int (nI (i + 1))), (0, .ref q)]) 0 (by decide +kernel) rfl (nI_add i 1) (by decide) rfl ?_
    refine kV.go 29 (off := -15) (by decide +kernel) rfl ?_
    exact ih (by omega) (upd f (nI i).toNatClampNeg (iI (-1))) (fun j hj => by
      show (if j = (nI i).toNatClampNeg then iI (-1) else f j) = iI (-1)
      rw [nI_cl (by omega)]
      by_cases e : j = i
      · rw [if_pos e]
      · rw [if_neg e]; exact hf j (by omega))
-- a letter more
set_option maxRecDepth 20000 in
theorem c_wl (l : Launch) (a : Int64) (x : Int32) : Met l (qMT 88).1 (qAW (qMT 88)) (qRm 1) (va_Pc [.long a, .int x] (fun _ => True)) (va_Ql (fun r (_ : Unit) => r = a * lN 32 + (x - nI 97 + nI 1).toInt64) (fun _ _ => True) (fun _ => False)) 0 0 (fun _ => False) := by
  refine Met.ofW (cc := (qMT 88).2.1) (maxL := 3) (ret := some .long) (by decide) rfl ?_
  intro p e s m args below meth c s₁ B hml hv
  obtain ⟨rfl, -⟩ := hv
  have hx := B.exec
  have hb := B.bytes
  have hr := B.returns
  have hts : ∀ w ∈ qAL, w.before _ s = true := fun w hw => atoms_spec (ws := qAW (qMT 88)) B.pre w (List.mem_cons_of_mem _ hw)
  have hown : s.vm.findClass RX7 = some m.cls := findClass_of_methodNamed B.named
  have hlocks := B.notSynchronized
  have hS : va_S (fun _ => False) s.heap s.heap [] := va_S.rf
  have hl := lv_entry ([.long a, .int x]) (n := 3) (Nat.le_of_ble_eq_true rfl)
  rw [lg_entry_eq]
  generalize (lg_sl ([.long a, .int x]) ++ List.replicate (3 - (lg_sl ([.long a, .int x])).length) Slot.unset).toArray = ls at hl ⊢
  have hl : lv_has ls 3 [(0, .long a), (2, .int x)] := hl
  refine lv_lload_n (k := 0) hx hb (by decide +kernel) rfl (lv_at hl 0 rfl) ?_
  refine lv_ldc2 (index := 72) hx hb hown (hts _ (qIs_in (h := 562) (w := .constantLong RX7 72 (lN 32)) (by decide +kernel))) (by decide +kernel) ?_
  refine lv_lmul hx hb (by decide +kernel) ?_
  refine lv_iload_n (k := 2) hx hb (by decide +kernel) rfl (lv_at hl 1 rfl) ?_
  refine lv_bipush (n := 97) (v := nI 97) hx hb (by decide +kernel) (by decide +kernel) ?_
  refine lv_isub hx hb (by decide +kernel) ?_
  refine lv_iconst (n := 1) (v := nI 1) hx hb (by decide +kernel) rfl ?_
  refine lv_iadd hx hb (by decide +kernel) ?_
  refine lv_i2l hx hb (by decide +kernel) rfl ?_
  refine lv_ladd hx hb (by decide +kernel) ?_
  exact W.lret hx hb hr (fun t ht hW => ⟨⟨_, (), rfl, rfl, trivial⟩, hS.F ht⟩) hS.2.2 (by decide +kernel) hlocks
theorem kV.wl {k : Nat} {E : qE} {A : Nat → Prop} {B : va_W → Prop} {d mc ms nc ns pc : Nat} {lo : List (Nat × Value)} {st : List Value} {ws : va_W} {i h : Nat} {a : Int64} {x : Int32} (hd : decode (qMT k).2.1 pc = .ok (.invokestatic i, 3)) (hw : qIs h (.methodLink (qCN (qMT k).2.2.2.2.1) i (qMT 88).1) = true) (h1 : 1 < d) (h2 : nc ≤ mc) (h3 : ns ≤ ms) (hs : (st.map fun v => v.category).sum ≤ 8) (K : kV k E A B d mc ms nc ns (pc + 3) lo (.long (a * lN 32 + (x - nI 97 + nI 1).toInt64) :: st) ws) : kV k E A B d mc ms nc ns pc lo (.int x :: .long a :: st) ws := by
  intro p l e s m args below meth c X hA hAE H locs ls hP hD hS hL
  obtain ⟨hx, hb, hml, hr, hlk, hown, hts, hKK, hStr, hbs, -⟩ := id X
  obtain ⟨hmk, hcw, -⟩ := id ok_88
  simp only [qmk, Bool.and_eq_true, decide_eq_true_eq] at hmk
  obtain ⟨⟨⟨⟨⟨⟨m2, m3⟩, m4⟩, m5⟩, m6⟩, m7⟩, m8⟩ := hmk
  have m8 : qIs ((qMT 88).2.2.2.2.2.1.getD 2 0) (.static (qMT 88).1) = true := m8
  have cb : CallB (kRm d mc ms) s args (qCN (qMT k).2.2.2.2.1) i (qMT 88).1 (qMT 88).2.1 (qMT 88).2.2.1 (qMT 88).2.2.2.1 (qAW (qMT 88)) (qRm 1) 0 0 (qMT 88).2.2.2.2.2.2.1 ∧ (Cond.static (qMT 88).1).before args s = true := by
    refine ⟨⟨rfl, rfl, ?_, ?_, fun w hw a' U hW => word_at hW (qAL_good (qAW_in ok_88 w hw)) (hts w (qAW_in ok_88 w hw)), List.mem_cons_self, hts _ (qAW_in ok_88 _ List.mem_cons_self), hts _ (qIs_in m2), m4, fun sig hs => ?_, hts _ (qIs_in hw)⟩, hts _ (qIs_in m8)⟩
    · show 1 + 1 ≤ d
      omega
    · show 8 + (3 + 11) + 64 * 1 ≤ 64 * d
      omega
    · rw [hs] at m7
      exact (Option.some.inj m7).symm
  refine va_calll (va_runS (As := [.long a, .int x]) (rest := st) ⟨hx, hb, hml, hown, hts⟩ (c_wl l a x) cb ⟨sT_blind, fun U hU hW => ⟨rfl, trivial⟩⟩ rfl rfl hL.1 rfl (by show 2 * 0 + _ ≤ 8; omega) hd ⟨h2, h3⟩) hS (fun _ _ h9 => False.elim h9) (fun _ h9 => False.elim h9) (fun r _ t H1 locs1 ht hvm hp hB hz hk1 hS1 => ?_)
  subst hp
  have hP1 : va_P E.1 vwCl ws H1 := hP.kept fun j x hx => hk1 _ ((hP j x hx).lt) (fun h9 => h9)
  exact K p l e s m args below meth c X hA hAE H1 locs1 ls hP1 hD hS1 hL
theorem kV.sub {k : Nat} {E : qE} {A : Nat → Prop} {B : va_W → Prop} {d mc ms nc ns pc : Nat} {lo lo' : List (Nat × Value)} {st : List Value} {ws : va_W} (ks : List Nat) (h : lv_pick lo ks = lo') (K : kV k E A B d mc ms nc ns pc lo' st ws) : kV k E A B d mc ms nc ns pc lo st ws := by
  intro p l e s m args below meth c X hA hAE H locs ls hP hD hS hL
  exact K p l e s m args below meth c X hA hAE H locs ls hP hD hS (lv_sub hL ks h)
/-- the words' codes, letter by letter -/
def kst (c : Int32) (s : Nat × (Nat → Int64)) : Nat × (Nat → Int64) := if c = nI 32 then (s.1 + 1, s.2) else (s.1, vp_updL s.2 s.1 (s.2 s.1 * lN 32 + (c - nI 97 + nI 1).toInt64))
def kld : Nat → Nat × (Nat → Int64)
  | 0 => (0, fun _ => 0)
  | i + 1 => kst (kRESb.getD i 0 &&& 255) (kld i)
theorem kld_1 : ∀ i, i < 111 → (kld i).1 < 22 := by decide +kernel
theorem kld_w : ∀ i, i < 22 → (kld 110).2 i = lN (zcg 32 96 (zcw.getD i [])) := by decide +kernel
def kL7 (E : qE) (q : Nat) (a : Nat → Nat) (g : Nat → Int64) : va_W := [(q, .inr (7, [.ref (a 1), .int (nI 0), .int (nI 0), .int (nI 0), .int (nI 0), .int (nI 0), .long (lN 0), .int (iI (-1)), .int (nI 0), .int (nI 0), .int (nI 0), .int (iI (-1)), .int (iI (-1)), .ref (a 2)])), (a 1, .inl (E.2.2.1 2, 900, .inl fun _ => 0)), (a 2, .inl (E.2.2.1 1, 22, .inr (.inl g)))]
set_option maxRecDepth 20000 in
theorem k_Text (E : qE) (q : Nat) : kC 5 87 2 922 E [.ref q] [(q, .inr (7, kdf 7))] (fun w => ∃ a, w = kL7 E q a (kld 110).2) := by
  refine kC.of (by decide +kernel) (Nat.le_of_ble_eq_true rfl) (fun A => ?_)
  refine kV.al (n := 0) (i := 0) 0 (by decide +kernel) rfl rfl ?_
  refine kV.oi (i := 3) (by decide +kernel) (h := 493) (by decide +kernel) (by decide) ?_
  refine kV.al (n := 0) (i := 0) 0 (by decide +kernel) rfl rfl ?_
  refine kV.sp (n := 900) (nI 900) (by decide +kernel) (by decide +kernel) ?_
  refine kV.aB 900 (by decide +kernel) (h := 614) (by decide +kernel) (by decide +kernel) rfl rfl (Nat.le_of_ble_eq_true rfl) (Nat.le_of_ble_eq_true rfl) (fun q8 => ?_)
  refine kV.pf (i := 9) 0 (by decide +kernel) (by decide) rfl (by decide) (Nat.le_of_ble_eq_true rfl) (h := 563) (by decide +kernel) rfl (.inl rfl) rfl rfl ?_
  refine kV.al (n := 0) (i := 0) 0 (by decide +kernel) rfl rfl ?_
  refine kV.ic (n := 0) (nI 0) (by decide +kernel) rfl ?_
  refine kV.pf (i := 15) 1 (by decide +kernel) (by decide) rfl (by decide) (Nat.le_of_ble_eq_true rfl) (h := 564) (by decide +kernel) rfl (.inl rfl) rfl rfl ?_
  refine kV.al (n := 0) (i := 0) 0 (by decide +kernel) rfl rfl ?_
  refine kV.ic (n := 0) (nI 0) (by decide +kernel) rfl ?_
  refine kV.pf (i := 19) 2 (by decide +kernel) (by decide) rfl (by decide) (Nat.le_of_ble_eq_true rfl) (h := 566) (by decide +kernel) rfl (.inl rfl) rfl rfl ?_
  refine kV.al (n := 0) (i := 0) 0 (by decide +kernel) rfl rfl ?_
  refine kV.ic (n := 0) (nI 0) (by decide +kernel) rfl ?_
  refine kV.pf (i := 22) 3 (by decide +kernel) (by decide) rfl (by decide) (Nat.le_of_ble_eq_true rfl) (h := 567) (by decide +kernel) rfl (.inl rfl) rfl rfl ?_
  refine kV.al (n := 0) (i := 0) 0 (by decide +kernel) rfl rfl ?_
  refine kV.ic (n := 0) (nI 0) (by decide +kernel) rfl ?_
  refine kV.pf (i := 25) 4 (by decide +kernel) (by decide) rfl (by decide) (Nat.le_of_ble_eq_true rfl) (h := 568) (by decide +kernel) rfl (.inl rfl) rfl rfl ?_
  refine kV.al (n := 0) (i := 0) 0 (by decide +kernel) rfl rfl ?_
  refine kV.ic (n := 0) (nI 0) (by decide +kernel) rfl ?_
  refine kV.pf (i := 28) 5 (by decide +kernel) (by decide) rfl (by decide) (Nat.le_of_ble_eq_true rfl) (h := 569) (by decide +kernel) rfl (.inl rfl) rfl rfl ?_
  refine kV.al (n := 0) (i := 0) 0 (by decide +kernel) rfl rfl ?_
  refine kV.lc (n := 0) (lN 0) (by decide +kernel) rfl ?_
  refine kV.pf (i := 31) 6 (by decide +kernel) (by decide) rfl (by decide) (Nat.le_of_ble_eq_true rfl) (h := 570) (by decide +kernel) rfl (.inl rfl) rfl rfl ?_
  refine kV.al (n := 0) (i := 0) 0 (by decide +kernel) rfl rfl ?_
  refine kV.ic (n := -1) (iI (-1)) (by decide +kernel) rfl ?_
  refine kV.pf (i := 35) 7 (by decide +kernel) (by decide) rfl (by decide) (Nat.le_of_ble_eq_true rfl) (h := 572) (by decide +kernel) rfl (.inl rfl) rfl rfl ?_
  refine kV.al (n := 0) (i := 0) 0 (by decide +kernel) rfl rfl ?_
  refine kV.ic (n := 0) (nI 0) (by decide +kernel) rfl ?_
  refine kV.pf (i := 38) 8 (by decide +kernel) (by decide) rfl (by decide) (Nat.le_of_ble_eq_true rfl) (h := 575) (by decide +kernel) rfl (.inl rfl) rfl rfl ?_
  refine kV.al (n := 0) (i := 0) 0 (by decide +kernel) rfl rfl ?_
  refine kV.ic (n := 0) (nI 0) (by decide +kernel) rfl ?_
  refine kV.pf (i := 41) 9 (by decide +kernel) (by decide) rfl (by decide) (Nat.le_of_ble_eq_true rfl) (h := 576) (by decide +kernel) rfl (.inl rfl) rfl rfl ?_
  refine kV.al (n := 0) (i := 0) 0 (by decide +kernel) rfl rfl ?_
  refine kV.ic (n := 0) (nI 0) (by decide +kernel) rfl ?_
  refine kV.pf (i := 44) 10 (by decide +kernel) (by decide) rfl (by decide) (Nat.le_of_ble_eq_true rfl) (h := 577) (by decide +kernel) rfl (.inl rfl) rfl rfl ?_
  refine kV.al (n := 0) (i := 0) 0 (by decide +kernel) rfl rfl ?_
  refine kV.ic (n := -1) (iI (-1)) (by decide +kernel) rfl ?_
  refine kV.pf (i := 47) 11 (by decide +kernel) (by decide) rfl (by decide) (Nat.le_of_ble_eq_true rfl) (h := 580) (by decide +kernel) rfl (.inl rfl) rfl rfl ?_
  refine kV.al (n := 0) (i := 0) 0 (by decide +kernel) rfl rfl ?_
  refine kV.ic (n := -1) (iI (-1)) (by decide +kernel) rfl ?_
  refine kV.pf (i := 50) 12 (by decide +kernel) (by decide) rfl (by decide) (Nat.le_of_ble_eq_true rfl) (h := 582) (by decide +kernel) rfl (.inl rfl) rfl rfl ?_
  refine kV.al (n := 0) (i := 0) 0 (by decide +kernel) rfl rfl ?_
  refine kV.bp (n := 22) (nI 22) (by decide +kernel) (by decide +kernel) ?_
  refine kV.aL 22 (by decide +kernel) (h := 389) (by decide +kernel) (by decide +kernel) rfl rfl (Nat.le_of_ble_eq_true rfl) (Nat.le_of_ble_eq_true rfl) (fun q76 => ?_)
  refine kV.pf (i := 53) 13 (by decide +kernel) (by decide) rfl (by decide) (Nat.le_of_ble_eq_true rfl) (h := 584) (by decide +kernel) rfl (.inl rfl) rfl rfl ?_
  refine kV.ic (n := 0) (nI 0) (by decide +kernel) rfl ?_
  refine kV.is (n := 1) (i := 1) (lo' := [(1, .int (nI 0)), (0, .ref q)]) (by decide +kernel) rfl (by decide) rfl ?_
  refine kV.ic (n := 0) (nI 0) (by decide +kernel) rfl ?_
  refine kV.is (n := 2) (i := 2) (lo' := [(2, .int (nI 0)), (1, .int (nI 0)), (0, .ref q)]) (by decide +kernel) rfl (by decide) rfl ?_
  refine qdown (n := 110) (P := fun i => kV 87 E A (fun w => ∃ a, w = kL7 E q a (kld 110).2) 5 2 922 2 922 85 [(2, .int (nI i)), (1, .int (nI (kld i).1)), (0, .ref q)] [] (kL7 E q (fun i => [q, q8, q76].getD i 0) (kld i).2)) (fun i hi ih => ?_) 0 (Nat.zero_le _)
  have hn := kld_1 i (by omega)
  have e1 : (kld (i + 1)) = kst (kRESb.getD i 0 &&& 255) (kld i) := rfl
  generalize hS : kld i = S at hn e1 ⊢
  obtain ⟨n, g⟩ := S
  have hn : n < 22 := hn
  refine kV.il (n := 2) (i := 2) 0 (by decide +kernel) rfl rfl ?_
  refine kV.ld (by decide +kernel) rfl ?_
  refine kV.len (i := 59) (by decide +kernel) (h := 495) (by decide +kernel) (by decide) (Nat.le_refl _) (Nat.le_refl _) (Nat.le_of_ble_eq_true rfl) ?_
  refine kV.ge 141 (off := 50) (by decide +kernel) rfl (fun h => ?_) (fun h => ?_)
  · have h : nI 110 ≤ nI i := h
    rw [nI_leI (by omega) (by omega)] at h
    have e2 : i = 110 := by omega
    subst e2
    exact kV.rt (by decide +kernel) rfl (Nat.le_refl _) (Nat.le_refl _) ⟨_, by rw [hS]⟩
  have h : ¬ nI 110 ≤ nI i := h
  rw [nI_leI (by omega) (by omega)] at h
  have ih := ih (by omega)
  rw [e1] at ih
  refine kV.il (n := 1) (i := 1) 1 (by decide +kernel) rfl rfl ?_
  refine kV.bp (n := 22) (nI 22) (by decide +kernel) (by decide +kernel) ?_
  refine kV.ge 141 (off := 44) (by decide +kernel) rfl (fun h2 => ?_) (fun _ => ?_)
  · rw [nI_leI (by omega) (by omega)] at h2
    omega
  refine kV.ld (by decide +kernel) rfl ?_
  refine kV.il (n := 2) (i := 2) 0 (by decide +kernel) rfl rfl ?_
  refine kV.chr (i := 64) (j := i) (by show i < 110; omega) (by decide +kernel) (h := 521) (by decide +kernel) (by decide) (Nat.le_refl _) (Nat.le_refl _) (Nat.le_of_ble_eq_true rfl) ?_
  generalize kRESb.getD i 0 &&& 255 = c at ih ⊢
  refine kV.is (n := 3) (i := 3) (lo' := [(3, .int c), (2, .int (nI i)), (1, .int (nI n)), (0, .ref q)]) (by decide +kernel) rfl (by decide) rfl ?_
  refine kV.il (n := 3) (i := 3) 0 (by decide +kernel) rfl rfl ?_
  refine kV.bp (n := 32) (nI 32) (by decide +kernel) (by decide +kernel) ?_
  have fin : ∀ S : Nat × (Nat → Int64), kV 87 E A (fun w => ∃ a, w = kL7 E q a (kld 110).2) 5 2 922 2 922 85 [(2, .int (nI (i + 1))), (1, .int (nI S.1)), (0, .ref q)] [] (kL7 E q (fun i => [q, q8, q76].getD i 0) S.2) → ∀ lo, lv_pick lo [0, 1, 2] = [(2, .int (nI i)), (1, .int (nI S.1)), (0, .ref q)] → kV 87 E A (fun w => ∃ a, w = kL7 E q a (kld 110).2) 5 2 922 2 922 135 lo [] (kL7 E q (fun i => [q, q8, q76].getD i 0) S.2) := by
    intro S K lo hlo
    refine kV.sub [0, 1, 2] hlo ?_
    refine kV.ii (i := 2) (n := 1) (v := nI (i + 1)) (lo' := [(2, .int (nI (i + 1))), (1, .int (nI S.1)), (0, .ref q)]) 0 (by decide +kernel) rfl (nI_add i 1) (by decide) rfl ?_
    exact kV.go 85 (off := -53) (by decide +kernel) rfl K
  unfold kst at ih
  refine kV.ne 119 (off := 9) (by decide +kernel) rfl (fun hc => ?_) (fun hc => ?_)
  · rw [if_neg hc] at ih
    refine kV.al (n := 0) (i := 0) 3 (by decide +kernel) rfl rfl ?_
    refine kV.gf (i := 53) 13 _ (by decide +kernel) (by decide) rfl (by decide) rfl (h := 584) (by decide +kernel) rfl ?_
    refine kV.il (n := 1) (i := 1) 2 (by decide +kernel) rfl rfl ?_
    refine kV.al (n := 0) (i := 0) 3 (by decide +kernel) rfl rfl ?_
    refine kV.gf (i := 53) 13 _ (by decide +kernel) (by decide) rfl (by decide) rfl (h := 584) (by decide +kernel) rfl ?_
    refine kV.il (n := 1) (i := 1) 2 (by decide +kernel) rfl rfl ?_
    refine kV.ll 2 (by decide +kernel) rfl (qin_n (n := 22) hn (by omega)) ?_
    refine kV.il (n := 3) (i := 3) 0 (by decide +kernel) rfl rfl ?_
    refine kV.wl (i := 68) (by decide +kernel) (h := 559) (by decide +kernel) (by decide) (Nat.le_refl _) (Nat.le_refl _) (by simp [Value.category]) ?_
    refine kV.ls 2 (by decide +kernel) rfl (qin_n (n := 22) hn (by omega)) ?_
    rw [nI_cl (by omega)]
    refine kV.sub [1, 2, 3] rfl ?_
    exact fin _ ih _ rfl
  · rw [if_pos hc] at ih
    refine kV.ii (i := 1) (n := 1) (v := nI (n + 1)) (lo' := [(1, .int (nI (n + 1))), (3, .int c), (2, .int (nI i)), (0, .ref q)]) 2 (by decide +kernel) rfl (nI_add n 1) (by decide) rfl ?_
    refine kV.sub [2, 0, 3] rfl ?_
    refine kV.go 135 (off := 19) (by decide +kernel) rfl ?_
    exact fin _ ih _ rfl
