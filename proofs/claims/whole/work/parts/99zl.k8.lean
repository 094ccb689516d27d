/-! constructors: the reference -/
theorem kV.ad {k : Nat} {E : qE} {A : Nat → Prop} {B : va_W → Prop} {d mc ms nc ns pc : Nat} {lo : List (Nat × Value)} {st : List Value} {ws : va_W} {x y : Int32} (v : Int32) (hd : decode (qMT k).2.1 pc = .ok (.iadd, 1)) (hv : x + y = v) (K : kV k E A B d mc ms nc ns (pc + 1) lo (.int v :: st) ws) : kV k E A B d mc ms nc ns pc lo (.int y :: .int x :: st) ws := by
  subst hv
  intro p l e s m args below meth c X hA hAE H locs ls hP hD hS hL
  exact lv_iadd X.1 X.2.1 hd (K p l e s m args below meth c X hA hAE H locs ls hP hD hS hL)
theorem kV.pF {k : Nat} {E : qE} {A : Nat → Prop} {B : va_W → Prop} {d mc ms nc ns pc : Nat} {lo : List (Nat × Value)} {st : List Value} {i h a ci : Nat} {fs : List Value} {v : Value} {L : va_W} (f : Nat) (hd : decode (qMT k).2.1 pc = .ok (.putfield i, 3)) (hc : ci < 13) (ho : (qMT k).2.2.2.2.1 = ci) (hf : f < qnf ci) (hl : fs.length = qnf ci) (hw : qIs h (.fieldLink (qCN ci) i (qCN ci) (qTF ci f).2.1 (qTF ci f).2.2.1) = true) (hT : (qTF ci f).1 = qCN ci) (hnm : (qMT k).1.name = "<init>" ∨ (qTF ci f).2.2.2 = false) (hn : narrow (qTy ci f) v = v) (hfit : fits (qTy ci f) v = true)
    (K : ∀ fs' : List Value, fs' = fs.set f v → fs'.length = qnf ci → kV k E A B d mc ms nc ns (pc + 3) lo st ((a, .inr (ci, fs')) :: L)) : kV k E A B d mc ms nc ns pc lo (v :: .ref a :: st) ((a, .inr (ci, fs)) :: L) :=
  kV.pf f hd hc ho hf (by rw [hl]; exact hf) hw hT hnm hn hfit (K _ rfl (by rw [List.length_set]; exact hl))
theorem kset_eq {fs fs' : List Value} {f n : Nat} {v : Value} (e : fs' = fs.set f v) (h : fs.length = n) (hf : f < n) : fs'[f]? = some v := by
  subst e
  rw [List.getElem?_set_self (by omega)]
theorem kset_ne {fs fs' : List Value} {f j : Nat} {v w : Value} (e : fs' = fs.set f v) (hne : f ≠ j) (h : fs[j]? = some w) : fs'[j]? = some w := by
  subst e
  rw [List.getElem?_set_ne hne]
  exact h
/-- how a plain camp lies -/
def kpl (f : Nat → Int32) : Prop := ∀ j, f j = if j = 2 then nI 4 else if j = 3 then nI 3 else if j = 4 then nI 4 else if j = 6 then iI (-1) else nI 0
set_option maxRecDepth 20000 in
theorem k_plain (E : qE) (a x : Nat) {fs : List Value} {f : Nat → Int32} (hf : fs[0]? = some (.ref x)) (hz : ∀ j, f j = nI 0) : kC 1 209 0 0 E [.ref a, .int (nI 0)] [(a, .inr (12, fs)), (x, .inl (E.2.2.1 0, 3088, .inl f))] (fun w => ∃ f', kpl f' ∧ w = [(a, .inr (12, fs)), (x, .inl (E.2.2.1 0, 3088, .inl f'))]) := by
  refine kC.of (by decide +kernel) (Nat.le_of_ble_eq_true rfl) (fun A => ?_)
  refine kV.ic (n := 0) (nI 0) (by decide +kernel) rfl ?_
  refine kV.is (n := 2) (i := 2) (lo' := [(2, .int (nI 0)), (0, .ref a), (1, .int (nI 0))]) (by decide +kernel) rfl (by decide) rfl ?_
  refine qdown (n := 456) (P := fun i => ∀ f : Nat → Int32, (∀ j, f j = nI 0) → kV 209 E A (fun w => ∃ f', kpl f' ∧ w = [(a, .inr (12, fs)), (x, .inl (E.2.2.1 0, 3088, .inl f'))]) 1 0 0 0 0 2 [(2, .int (nI i)), (0, .ref a), (1, .int (nI 0))] [] [(a, .inr (12, fs)), (x, .inl (E.2.2.1 0, 3088, .inl f))]) (fun i hi ih => ?_) 0 (Nat.zero_le _) f hz
  clear hz
  intro f hz
  refine kV.il (n := 2) (i := 2) 0 (by decide +kernel) rfl rfl ?_
  refine kV.sp (n := 456) (nI 456) (by decide +kernel) (by decide +kernel) ?_
  refine kV.ge 24 (off := 18) (by decide +kernel) rfl (fun h => ?_) (fun h => ?_)
  · clear ih h
    refine kV.al (n := 0) (i := 0) 1 (by decide +kernel) rfl rfl ?_
    refine kV.gf (i := 7) 0 _ (by decide +kernel) (by decide) rfl (by decide) hf (h := 1726) (by decide +kernel) rfl ?_
    refine kV.il (n := 1) (i := 1) 2 (by decide +kernel) rfl rfl ?_
    refine kV.ic (n := 2) (nI 2) (by decide +kernel) rfl ?_
    refine kV.ad (nI 2) (by decide +kernel) (by decide +kernel) ?_
    refine kV.ic (n := 4) (nI 4) (by decide +kernel) rfl ?_
    refine kV.ia 1 (by decide +kernel) rfl (qin_n (n := 3088) (by decide) (by decide)) ?_
    refine kV.al (n := 0) (i := 0) 1 (by decide +kernel) rfl rfl ?_
    refine kV.gf (i := 7) 0 _ (by decide +kernel) (by decide) rfl (by decide) hf (h := 1726) (by decide +kernel) rfl ?_
    refine kV.il (n := 1) (i := 1) 2 (by decide +kernel) rfl rfl ?_
    refine kV.ic (n := 3) (nI 3) (by decide +kernel) rfl ?_
    refine kV.ad (nI 3) (by decide +kernel) (by decide +kernel) ?_
    refine kV.ic (n := 3) (nI 3) (by decide +kernel) rfl ?_
    refine kV.ia 1 (by decide +kernel) rfl (qin_n (n := 3088) (by decide) (by decide)) ?_
    refine kV.al (n := 0) (i := 0) 1 (by decide +kernel) rfl rfl ?_
    refine kV.gf (i := 7) 0 _ (by decide +kernel) (by decide) rfl (by decide) hf (h := 1726) (by decide +kernel) rfl ?_
    refine kV.il (n := 1) (i := 1) 2 (by decide +kernel) rfl rfl ?_
    refine kV.ic (n := 4) (nI 4) (by decide +kernel) rfl ?_
    refine kV.ad (nI 4) (by decide +kernel) (by decide +kernel) ?_
    refine kV.ic (n := 4) (nI 4) (by decide +kernel) rfl ?_
    refine kV.ia 1 (by decide +kernel) rfl (qin_n (n := 3088) (by decide) (by decide)) ?_
    refine kV.al (n := 0) (i := 0) 1 (by decide +kernel) rfl rfl ?_
    refine kV.gf (i := 7) 0 _ (by decide +kernel) (by decide) rfl (by decide) hf (h := 1726) (by decide +kernel) rfl ?_
    refine kV.il (n := 1) (i := 1) 2 (by decide +kernel) rfl rfl ?_
    refine kV.bp (n := 6) (nI 6) (by decide +kernel) (by decide +kernel) ?_
    refine kV.ad (nI 6) (by decide +kernel) (by decide +kernel) ?_
    refine kV.ic (n := -1) (iI (-1)) (by decide +kernel) rfl ?_
    refine kV.ia 1 (by decide +kernel) rfl (qin_n (n := 3088) (by decide) (by decide)) ?_
    refine kV.rt (by decide +kernel) rfl (Nat.le_refl _) (Nat.le_refl _) ⟨_, fun j => ?_, rfl⟩
    show (if j = (nI 6).toNatClampNeg then iI (-1) else if j = (nI 4).toNatClampNeg then nI 4 else if j = (nI 3).toNatClampNeg then nI 3 else if j = (nI 2).toNatClampNeg then nI 4 else f j) = _
    rw [nI_cl (by decide), nI_cl (by decide), nI_cl (by decide), nI_cl (by decide), hz j]
    by_cases e2 : j = 2
    · rw [if_neg (by omega), if_neg (by omega), if_neg (by omega), if_pos e2, if_pos e2]
    by_cases e3 : j = 3
    · rw [if_neg (by omega), if_neg (by omega), if_pos e3, if_neg (by omega), if_pos e3]
    by_cases e4 : j = 4
    · rw [if_neg (by omega), if_pos e4, if_neg (by omega), if_neg (by omega), if_pos e4]
    by_cases e6 : j = 6
    · rw [if_pos e6, if_neg (by omega), if_neg (by omega), if_neg (by omega), if_pos e6]
    · rw [if_neg e6, if_neg e4, if_neg e3, if_neg e2, if_neg e2, if_neg e3, if_neg e4, if_neg e6]
  · rw [nI_leI (by omega) (by omega)] at h
    refine kV.al (n := 0) (i := 0) 1 (by decide +kernel) rfl rfl ?_
    refine kV.gf (i := 7) 0 _ (by decide +kernel) (by decide) rfl (by decide) hf (h := 1726) (by decide +kernel) rfl ?_
    refine kV.il (n := 1) (i := 1) 2 (by decide +kernel) rfl rfl ?_
    refine kV.il (n := 2) (i := 2) 0 (by decide +kernel) rfl rfl ?_
    refine kV.ad (nI i) (by decide +kernel) (by rw [nI_add, Nat.zero_add]) ?_
    refine kV.ic (n := 0) (nI 0) (by decide +kernel) rfl ?_
    refine kV.ia 1 (by decide +kernel) rfl (qin_n (n := 3088) (by omega) (by omega)) ?_
    refine kV.ii (i := 2) (n := 1) (v := nI (i + 1)) (lo' := [(2, .int (nI (i + 1))), (0, .ref a), (1, .int (nI 0))]) 0 (by decide +kernel) rfl (nI_add i 1) (by decide) rfl ?_
    refine kV.go 2 (off := -19) (by decide +kernel) rfl ?_
    exact ih (by omega) (upd f (nI i).toNatClampNeg (nI 0)) (fun j => by
      show (if j = (nI i).toNatClampNeg then nI 0 else f j) = nI 0
      split
      · rfl
      · exact hz j)
def kL12 (E : qE) (q : Nat) (a : Nat → Nat) (f g : Nat → Int32) : va_W := [(q, .inr (12, [.ref (a 1), .ref (a 2), .int 0, .long 0, .long (lN 1), .ref (a 3), .ref (a 4), .ref (a 5), .ref (a 6), .ref (a 7), .int 0, .int 0, .int 0, .int 0, .int 0, .int 0, .int (iI (-1)), .int (iI (-1)), .int 0, .int 0, .int 0, .ref (a 8), .int 0, .int 0, .int 0, .ref (a 9), .int 0, .int 0, .int 0, .int 0, .ref (a 10), .ref (a 11), .int 0, .ref (a 12), .ref (a 13), .ref (a 14), .ref (a 15), .int 0, .int 0, .ref (a 16), .ref (a 17), .ref (a 18), .int 0, .int 0])), (a 1, .inl (E.2.2.1 0, 3088, .inl f)), (a 2, .inl (E.2.2.1 1, 48, .inr (.inl fun _ => 0))), (a 3, .inl (E.2.2.1 0, 4, .inl fun _ => 0)), (a 4, .inl (E.2.2.1 0, 4, .inl g)), (a 5, .inl (E.2.2.1 1, 240, .inr (.inl fun _ => 0))), (a 6, .inl (E.2.2.1 2, 900, .inl fun _ => 0)), (a 7, .inl (E.2.2.1 2, 900, .inl fun _ => 0)), (a 8, .inl (E.2.2.1 0, 3, .inl fun _ => 0)), (a 9, .inl (E.2.2.1 0, 8, .inl fun _ => 0)), (a 10, .inl (E.2.2.1 0, 248, .inl fun _ => 0)), (a 11, .inl (E.2.2.1 3, 31, .inl fun _ => 0)), (a 12, .inl (E.2.2.1 0, 4, .inl fun _ => 0)), (a 13, .inl (E.2.2.1 0, 4, .inl fun _ => 0)), (a 14, .inl (E.2.2.1 0, 4, .inl fun _ => 0)), (a 15, .inl (E.2.2.1 1, 11, .inr (.inl fun _ => 0))), (a 16, .inl (E.2.2.1 0, 80, .inl fun _ => 0)), (a 17, .inl (E.2.2.1 0, 5, .inl fun _ => 0)), (a 18, .inl (E.2.2.1 0, 5, .inl fun _ => 0))]
set_option maxRecDepth 20000 in
theorem k_Model (E : qE) (q : Nat) : kC 2 208 18 5587 E [.ref q] [(q, .inr (12, kdf 12))] (fun w => ∃ a f g, kpl f ∧ (∀ j, j < 4 → g j = iI (-1)) ∧ w = kL12 E q a f g) := by
  refine kC.of (by decide +kernel) (Nat.le_of_ble_eq_true rfl) (fun A => ?_)
  have l0 : (kdf 12).length = qnf 12 := by simp [kdf]
  have ek : kdf 12 = [.null, .null, .int 0, .long 0, .long 0, .null, .null, .null, .null, .null, .int 0, .int 0, .int 0, .int 0, .int 0, .int 0, .int 0, .int 0, .int 0, .int 0, .int 0, .null, .int 0, .int 0, .int 0, .null, .int 0, .int 0, .int 0, .int 0, .null, .null, .int 0, .null, .null, .null, .null, .int 0, .int 0, .null, .null, .null, .int 0, .int 0] := rfl
  rw [ek]
  rw [ek] at l0
  obtain ⟨f0, ef⟩ : ∃ f : List Value, f = [.null, .null, .int 0, .long 0, .long 0, .null, .null, .null, .null, .null, .int 0, .int 0, .int 0, .int 0, .int 0, .int 0, .int 0, .int 0, .int 0, .int 0, .int 0, .null, .int 0, .int 0, .int 0, .null, .int 0, .int 0, .int 0, .int 0, .null, .null, .int 0, .null, .null, .null, .null, .int 0, .int 0, .null, .null, .null, .int 0, .int 0] := ⟨_, rfl⟩
  rw [← ef] at l0 ⊢
  clear ek
  refine kV.al (n := 0) (i := 0) 0 (by decide +kernel) rfl rfl ?_
  refine kV.oi (i := 1) (by decide +kernel) (h := 1721) (by decide +kernel) (by decide) ?_
  refine kV.al (n := 0) (i := 0) 0 (by decide +kernel) rfl rfl ?_
  refine kV.sp (n := 3088) (nI 3088) (by decide +kernel) (by decide +kernel) ?_
  refine kV.aI 3088 (by decide +kernel) (h := 390) (by decide +kernel) (by decide +kernel) rfl rfl (Nat.le_of_ble_eq_true rfl) (Nat.le_of_ble_eq_true rfl) (fun q8 => ?_)
  refine kV.pF (i := 7) 0 (by decide +kernel) (by decide) rfl (by decide) l0 (h := 1726) (by decide +kernel) rfl (.inl rfl) rfl rfl (fun f1 e1 l1 => ?_)
  have g0 := kset_eq e1 l0 (by decide)
  refine kV.al (n := 0) (i := 0) 0 (by decide +kernel) rfl rfl ?_
  refine kV.bp (n := 48) (nI 48) (by decide +kernel) (by decide +kernel) ?_
  refine kV.aL 48 (by decide +kernel) (h := 389) (by decide +kernel) (by decide +kernel) rfl rfl (Nat.le_of_ble_eq_true rfl) (Nat.le_of_ble_eq_true rfl) (fun q16 => ?_)
  refine kV.pF (i := 13) 1 (by decide +kernel) (by decide) rfl (by decide) l1 (h := 1727) (by decide +kernel) rfl (.inl rfl) rfl rfl (fun f2 e2 l2 => ?_)
  have g0 := kset_ne e2 (by decide) g0
  refine kV.al (n := 0) (i := 0) 0 (by decide +kernel) rfl rfl ?_
  refine kV.lc (n := 1) (lN 1) (by decide +kernel) rfl ?_
  refine kV.pF (i := 17) 4 (by decide +kernel) (by decide) rfl (by decide) l2 (h := 1730) (by decide +kernel) rfl (.inl rfl) rfl rfl (fun f3 e3 l3 => ?_)
  have g0 := kset_ne e3 (by decide) g0
  refine kV.al (n := 0) (i := 0) 0 (by decide +kernel) rfl rfl ?_
  refine kV.ic (n := 4) (nI 4) (by decide +kernel) rfl ?_
  refine kV.aI 4 (by decide +kernel) (h := 390) (by decide +kernel) (by decide +kernel) rfl rfl (Nat.le_of_ble_eq_true rfl) (Nat.le_of_ble_eq_true rfl) (fun q28 => ?_)
  refine kV.pF (i := 21) 5 (by decide +kernel) (by decide) rfl (by decide) l3 (h := 1731) (by decide +kernel) rfl (.inl rfl) rfl rfl (fun f4 e4 l4 => ?_)
  have g0 := kset_ne e4 (by decide) g0
  refine kV.al (n := 0) (i := 0) 0 (by decide +kernel) rfl rfl ?_
  refine kV.ic (n := 4) (nI 4) (by decide +kernel) rfl ?_
  refine kV.aI 4 (by decide +kernel) (h := 390) (by decide +kernel) (by decide +kernel) rfl rfl (Nat.le_of_ble_eq_true rfl) (Nat.le_of_ble_eq_true rfl) (fun q35 => ?_)
  refine kV.du (by decide +kernel) rfl ?_
  refine kV.ic (n := 0) (nI 0) (by decide +kernel) rfl ?_
  refine kV.ic (n := -1) (iI (-1)) (by decide +kernel) rfl ?_
  refine kV.ia 4 (by decide +kernel) rfl (qin_n (n := 4) (by decide) (by decide)) ?_
  refine kV.du (by decide +kernel) rfl ?_
  refine kV.ic (n := 1) (nI 1) (by decide +kernel) rfl ?_
  refine kV.ic (n := -1) (iI (-1)) (by decide +kernel) rfl ?_
  refine kV.ia 4 (by decide +kernel) rfl (qin_n (n := 4) (by decide) (by decide)) ?_
  refine kV.du (by decide +kernel) rfl ?_
  refine kV.ic (n := 2) (nI 2) (by decide +kernel) rfl ?_
  refine kV.ic (n := -1) (iI (-1)) (by decide +kernel) rfl ?_
  refine kV.ia 4 (by decide +kernel) rfl (qin_n (n := 4) (by decide) (by decide)) ?_
  refine kV.du (by decide +kernel) rfl ?_
  refine kV.ic (n := 3) (nI 3) (by decide +kernel) rfl ?_
  refine kV.ic (n := -1) (iI (-1)) (by decide +kernel) rfl ?_
  refine kV.ia 4 (by decide +kernel) rfl (qin_n (n := 4) (by decide) (by decide)) ?_
  refine kV.pF (i := 24) 6 (by decide +kernel) (by decide) rfl (by decide) l4 (h := 1732) (by decide +kernel) rfl (.inl rfl) rfl rfl (fun f5 e5 l5 => ?_)
  have g0 := kset_ne e5 (by decide) g0
  refine kV.al (n := 0) (i := 0) 0 (by decide +kernel) rfl rfl ?_
  refine kV.sp (n := 240) (nI 240) (by decide +kernel) (by decide +kernel) ?_
  refine kV.aL 240 (by decide +kernel) (h := 389) (by decide +kernel) (by decide +kernel) rfl rfl (Nat.le_of_ble_eq_true rfl) (Nat.le_of_ble_eq_true rfl) (fun q60 => ?_)
  refine kV.pF (i := 27) 7 (by decide +kernel) (by decide) rfl (by decide) l5 (h := 1733) (by decide +kernel) rfl (.inl rfl) rfl rfl (fun f6 e6 l6 => ?_)
  have g0 := kset_ne e6 (by decide) g0
  refine kV.al (n := 0) (i := 0) 0 (by decide +kernel) rfl rfl ?_
  refine kV.sp (n := 900) (nI 900) (by decide +kernel) (by decide +kernel) ?_
  refine kV.aB 900 (by decide +kernel) (h := 614) (by decide +kernel) (by decide +kernel) rfl rfl (Nat.le_of_ble_eq_true rfl) (Nat.le_of_ble_eq_true rfl) (fun q69 => ?_)
  refine kV.pF (i := 30) 8 (by decide +kernel) (by decide) rfl (by decide) l6 (h := 1734) (by decide +kernel) rfl (.inl rfl) rfl rfl (fun f7 e7 l7 => ?_)
  have g0 := kset_ne e7 (by decide) g0
  refine kV.al (n := 0) (i := 0) 0 (by decide +kernel) rfl rfl ?_
  refine kV.sp (n := 900) (nI 900) (by decide +kernel) (by decide +kernel) ?_
  refine kV.aB 900 (by decide +kernel) (h := 614) (by decide +kernel) (by decide +kernel) rfl rfl (Nat.le_of_ble_eq_true rfl) (Nat.le_of_ble_eq_true rfl) (fun q78 => ?_)
  refine kV.pF (i := 34) 9 (by decide +kernel) (by decide) rfl (by decide) l7 (h := 1735) (by decide +kernel) rfl (.inl rfl) rfl rfl (fun f8 e8 l8 => ?_)
  have g0 := kset_ne e8 (by decide) g0
  refine kV.al (n := 0) (i := 0) 0 (by decide +kernel) rfl rfl ?_
  refine kV.ic (n := -1) (iI (-1)) (by decide +kernel) rfl ?_
  refine kV.pF (i := 37) 16 (by decide +kernel) (by decide) rfl (by decide) l8 (h := 1742) (by decide +kernel) rfl (.inl rfl) rfl rfl (fun f9 e9 l9 => ?_)
  have g0 := kset_ne e9 (by decide) g0
  refine kV.al (n := 0) (i := 0) 0 (by decide +kernel) rfl rfl ?_
  refine kV.ic (n := -1) (iI (-1)) (by decide +kernel) rfl ?_
  refine kV.pF (i := 41) 17 (by decide +kernel) (by decide) rfl (by decide) l9 (h := 1743) (by decide +kernel) rfl (.inl rfl) rfl rfl (fun f10 e10 l10 => ?_)
  have g0 := kset_ne e10 (by decide) g0
  refine kV.al (n := 0) (i := 0) 0 (by decide +kernel) rfl rfl ?_
  refine kV.ic (n := 3) (nI 3) (by decide +kernel) rfl ?_
  refine kV.aI 3 (by decide +kernel) (h := 390) (by decide +kernel) (by decide +kernel) rfl rfl (Nat.le_of_ble_eq_true rfl) (Nat.le_of_ble_eq_true rfl) (fun q95 => ?_)
  refine kV.pF (i := 44) 21 (by decide +kernel) (by decide) rfl (by decide) l10 (h := 1747) (by decide +kernel) rfl (.inl rfl) rfl rfl (fun f11 e11 l11 => ?_)
  have g0 := kset_ne e11 (by decide) g0
  refine kV.al (n := 0) (i := 0) 0 (by decide +kernel) rfl rfl ?_
  refine kV.bp (n := 8) (nI 8) (by decide +kernel) (by decide +kernel) ?_
  refine kV.aI 8 (by decide +kernel) (h := 390) (by decide +kernel) (by decide +kernel) rfl rfl (Nat.le_of_ble_eq_true rfl) (Nat.le_of_ble_eq_true rfl) (fun q103 => ?_)
  refine kV.pF (i := 47) 25 (by decide +kernel) (by decide) rfl (by decide) l11 (h := 1751) (by decide +kernel) rfl (.inl rfl) rfl rfl (fun f12 e12 l12 => ?_)
  have g0 := kset_ne e12 (by decide) g0
  refine kV.al (n := 0) (i := 0) 0 (by decide +kernel) rfl rfl ?_
  refine kV.sp (n := 248) (nI 248) (by decide +kernel) (by decide +kernel) ?_
  refine kV.aI 248 (by decide +kernel) (h := 390) (by decide +kernel) (by decide +kernel) rfl rfl (Nat.le_of_ble_eq_true rfl) (Nat.le_of_ble_eq_true rfl) (fun q112 => ?_)
  refine kV.pF (i := 50) 30 (by decide +kernel) (by decide) rfl (by decide) l12 (h := 1756) (by decide +kernel) rfl (.inl rfl) rfl rfl (fun f13 e13 l13 => ?_)
  have g0 := kset_ne e13 (by decide) g0
  refine kV.al (n := 0) (i := 0) 0 (by decide +kernel) rfl rfl ?_
  refine kV.bp (n := 31) (nI 31) (by decide +kernel) (by decide +kernel) ?_
  refine kV.aZ 31 (by decide +kernel) (h := 1875) (by decide +kernel) (by decide +kernel) rfl rfl (Nat.le_of_ble_eq_true rfl) (Nat.le_of_ble_eq_true rfl) (fun q120 => ?_)
  refine kV.pF (i := 53) 31 (by decide +kernel) (by decide) rfl (by decide) l13 (h := 1757) (by decide +kernel) rfl (.inl rfl) rfl rfl (fun f14 e14 l14 => ?_)
  have g0 := kset_ne e14 (by decide) g0
  refine kV.al (n := 0) (i := 0) 0 (by decide +kernel) rfl rfl ?_
  refine kV.ic (n := 4) (nI 4) (by decide +kernel) rfl ?_
  refine kV.aI 4 (by decide +kernel) (h := 390) (by decide +kernel) (by decide +kernel) rfl rfl (Nat.le_of_ble_eq_true rfl) (Nat.le_of_ble_eq_true rfl) (fun q127 => ?_)
  refine kV.pF (i := 57) 33 (by decide +kernel) (by decide) rfl (by decide) l14 (h := 1759) (by decide +kernel) rfl (.inl rfl) rfl rfl (fun f15 e15 l15 => ?_)
  have g0 := kset_ne e15 (by decide) g0
  refine kV.al (n := 0) (i := 0) 0 (by decide +kernel) rfl rfl ?_
  refine kV.ic (n := 4) (nI 4) (by decide +kernel) rfl ?_
  refine kV.aI 4 (by decide +kernel) (h := 390) (by decide +kernel) (by decide +kernel) rfl rfl (Nat.le_of_ble_eq_true rfl) (Nat.le_of_ble_eq_true rfl) (fun q134 => ?_)
  refine kV.pF (i := 60) 34 (by decide +kernel) (by decide) rfl (by decide) l15 (h := 1760) (by decide +kernel) rfl (.inl rfl) rfl rfl (fun f16 e16 l16 => ?_)
  have g0 := kset_ne e16 (by decide) g0
  refine kV.al (n := 0) (i := 0) 0 (by decide +kernel) rfl rfl ?_
  refine kV.ic (n := 4) (nI 4) (by decide +kernel) rfl ?_
  refine kV.aI 4 (by decide +kernel) (h := 390) (by decide +kernel) (by decide +kernel) rfl rfl (Nat.le_of_ble_eq_true rfl) (Nat.le_of_ble_eq_true rfl) (fun q141 => ?_)
  refine kV.pF (i := 63) 35 (by decide +kernel) (by decide) rfl (by decide) l16 (h := 1761) (by decide +kernel) rfl (.inl rfl) rfl rfl (fun f17 e17 l17 => ?_)
  have g0 := kset_ne e17 (by decide) g0
  refine kV.al (n := 0) (i := 0) 0 (by decide +kernel) rfl rfl ?_
  refine kV.bp (n := 11) (nI 11) (by decide +kernel) (by decide +kernel) ?_
  refine kV.aL 11 (by decide +kernel) (h := 389) (by decide +kernel) (by decide +kernel) rfl rfl (Nat.le_of_ble_eq_true rfl) (Nat.le_of_ble_eq_true rfl) (fun q149 => ?_)
  refine kV.pF (i := 66) 36 (by decide +kernel) (by decide) rfl (by decide) l17 (h := 1762) (by decide +kernel) rfl (.inl rfl) rfl rfl (fun f18 e18 l18 => ?_)
  have g0 := kset_ne e18 (by decide) g0
  refine kV.al (n := 0) (i := 0) 0 (by decide +kernel) rfl rfl ?_
  refine kV.bp (n := 80) (nI 80) (by decide +kernel) (by decide +kernel) ?_
  refine kV.aI 80 (by decide +kernel) (h := 390) (by decide +kernel) (by decide +kernel) rfl rfl (Nat.le_of_ble_eq_true rfl) (Nat.le_of_ble_eq_true rfl) (fun q157 => ?_)
  refine kV.pF (i := 69) 39 (by decide +kernel) (by decide) rfl (by decide) l18 (h := 1765) (by decide +kernel) rfl (.inl rfl) rfl rfl (fun f19 e19 l19 => ?_)
  have g0 := kset_ne e19 (by decide) g0
  refine kV.al (n := 0) (i := 0) 0 (by decide +kernel) rfl rfl ?_
  refine kV.ic (n := 5) (nI 5) (by decide +kernel) rfl ?_
  refine kV.aI 5 (by decide +kernel) (h := 390) (by decide +kernel) (by decide +kernel) rfl rfl (Nat.le_of_ble_eq_true rfl) (Nat.le_of_ble_eq_true rfl) (fun q164 => ?_)
  refine kV.pF (i := 72) 40 (by decide +kernel) (by decide) rfl (by decide) l19 (h := 1766) (by decide +kernel) rfl (.inl rfl) rfl rfl (fun f20 e20 l20 => ?_)
  have g0 := kset_ne e20 (by decide) g0
  refine kV.al (n := 0) (i := 0) 0 (by decide +kernel) rfl rfl ?_
  refine kV.ic (n := 5) (nI 5) (by decide +kernel) rfl ?_
  refine kV.aI 5 (by decide +kernel) (h := 390) (by decide +kernel) (by decide +kernel) rfl rfl (Nat.le_of_ble_eq_true rfl) (Nat.le_of_ble_eq_true rfl) (fun q171 => ?_)
  refine kV.pF (i := 75) 41 (by decide +kernel) (by decide) rfl (by decide) l20 (h := 1767) (by decide +kernel) rfl (.inl rfl) rfl rfl (fun f21 e21 l21 => ?_)
  have g0 := kset_ne e21 (by decide) g0
  refine kV.al (n := 0) (i := 0) 0 (by decide +kernel) rfl rfl ?_
  refine kV.ic (n := 0) (nI 0) (by decide +kernel) rfl ?_
  simp only [List.nil_append, List.append_assoc, List.cons_append]
  refine kV.cv (i := 78) (k' := 209) (As := [.int (nI 0)]) (rest := []) (w0 := [(q8, _)]) (k_plain E q q8 g0 (fun _ => rfl)) (by decide +kernel) (by decide +kernel) rfl (by decide) rfl (h := 1722) (by decide +kernel) (h' := 40) (by decide +kernel) rfl (by decide) (Nat.le_of_ble_eq_true rfl) (Nat.le_of_ble_eq_true rfl) (Nat.zero_le _) (fun w hw => ?_)
  obtain ⟨f', hf', rfl⟩ := hw
  clear g0
  subst ef
  simp only [List.set_cons_zero, List.set_cons_succ] at e1
  subst e1
  simp only [List.set_cons_zero, List.set_cons_succ] at e2
  subst e2
  simp only [List.set_cons_zero, List.set_cons_succ] at e3
  subst e3
  simp only [List.set_cons_zero, List.set_cons_succ] at e4
  subst e4
  simp only [List.set_cons_zero, List.set_cons_succ] at e5
  subst e5
  simp only [List.set_cons_zero, List.set_cons_succ] at e6
  subst e6
  simp only [List.set_cons_zero, List.set_cons_succ] at e7
  subst e7
  simp only [List.set_cons_zero, List.set_cons_succ] at e8
  subst e8
  simp only [List.set_cons_zero, List.set_cons_succ] at e9
  subst e9
  simp only [List.set_cons_zero, List.set_cons_succ] at e10
  subst e10
  simp only [List.set_cons_zero, List.set_cons_succ] at e11
  subst e11
  simp only [List.set_cons_zero, List.set_cons_succ] at e12
  subst e12
  simp only [List.set_cons_zero, List.set_cons_succ] at e13
  subst e13
  simp only [List.set_cons_zero, List.set_cons_succ] at e14
  subst e14
  simp only [List.set_cons_zero, List.set_cons_succ] at e15
  subst e15
  simp only [List.set_cons_zero, List.set_cons_succ] at e16
  subst e16
  simp only [List.set_cons_zero, List.set_cons_succ] at e17
  subst e17
  simp only [List.set_cons_zero, List.set_cons_succ] at e18
  subst e18
  simp only [List.set_cons_zero, List.set_cons_succ] at e19
  subst e19
  simp only [List.set_cons_zero, List.set_cons_succ] at e20
  subst e20
  simp only [List.set_cons_zero, List.set_cons_succ] at e21
  subst e21
  refine kV.rt (by decide +kernel) rfl (Nat.le_of_ble_eq_true rfl) (Nat.le_of_ble_eq_true rfl) ⟨fun i => [q, q8, q16, q28, q35, q60, q69, q78, q95, q103, q112, q120, q127, q134, q141, q149, q157, q164, q171].getD i 0, f', upd (upd (upd (upd (fun _ => 0) (nI 0).toNatClampNeg (iI (-1))) (nI 1).toNatClampNeg (iI (-1))) (nI 2).toNatClampNeg (iI (-1))) (nI 3).toNatClampNeg (iI (-1)), hf', fun j hj => ?_, rfl⟩
  rcases (show j = 0 ∨ j = 1 ∨ j = 2 ∨ j = 3 by omega) with rfl | rfl | rfl | rfl <;> rfl
