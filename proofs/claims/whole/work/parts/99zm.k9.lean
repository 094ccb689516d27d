/-! constructors: the class -/
theorem kgl {α : Type} (x c : α) (LA R : List α) : (x :: (LA ++ (c :: R)))[LA.length + 1]? = some c := by
  rw [List.getElem?_cons_succ, List.getElem?_append_right (Nat.le_refl _), Nat.sub_self]
  rfl
theorem kgm {α : Type} (x c c' : α) (LA R : List α) : (x :: (LA ++ (c' :: (c :: R))))[LA.length + 2]? = some c := by
  rw [List.getElem?_cons_succ, List.getElem?_append_right (by omega), Nat.add_sub_cancel_left]
  rfl
theorem ksl {α : Type} (x c c' : α) (LA R : List α) : (x :: (LA ++ (c :: R))).set (LA.length + 1) c' = x :: (LA ++ (c' :: R)) := by
  rw [List.set_cons_succ, List.set_append_right _ _ (Nat.le_refl _), Nat.sub_self, List.set_cons_zero]
theorem ksm {α : Type} (x c c' d : α) (LA R : List α) : (x :: (LA ++ (d :: (c :: R)))).set (LA.length + 2) c' = x :: (LA ++ (d :: (c' :: R))) := by
  rw [List.set_cons_succ, List.set_append_right _ _ (by omega), Nat.add_sub_cancel_left]
  rfl
theorem kgn {α : Type} (x c c' v : α) (LA LB R : List α) : (x :: (LA ++ (c :: (c' :: (LB ++ (v :: R))))))[LA.length + LB.length + 3]? = some v := by
  rw [List.getElem?_cons_succ, List.getElem?_append_right (by omega), show LA.length + LB.length + 2 - LA.length = LB.length + 2 by omega]
  show (LB ++ (v :: R))[LB.length]? = some v
  rw [List.getElem?_append_right (Nat.le_refl _), Nat.sub_self]
  rfl
theorem k_FCs {E : qE} {A : Nat → Prop} {B : va_W → Prop} {q c dd nc ns i : Nat} {fs : List Value} {LA LB : va_W} {f g : Nat → Option Nat} (hi : i < 3) (h1 : nc + 18 ≤ 138) (h2 : ns + 421 ≤ 3929) (g14 : fs[14]? = some (.ref c)) (g15 : fs[15]? = some (.ref dd))
    (K : ∀ qc ac qw aw, kV 137 E A B 6 138 3929 (nc + 18) (ns + 421) 218 [(1, .int (nI (i + 1))), (0, .ref q)] [] ((q, .inr (11, fs)) :: (LA ++ ((c, .inl (E.2.2.1 4, 3, .inr (.inr (.inr (.inr (va_up f i (some qc))))))) :: ((dd, .inl (E.2.2.1 5, 3, .inr (.inr (.inr (.inr (va_up g i (some qw))))))) :: (LB ++ (kL1 E qc ac ++ kL9 E qw aw))))))) :
    kV 137 E A B 6 138 3929 nc ns 218 [(1, .int (nI i)), (0, .ref q)] [] ((q, .inr (11, fs)) :: (LA ++ ((c, .inl (E.2.2.1 4, 3, .inr (.inr (.inr (.inr f))))) :: ((dd, .inl (E.2.2.1 5, 3, .inr (.inr (.inr (.inr g))))) :: LB)))) := by
  have q1 : (113 : Nat) = qnf 1 + 96 := by decide +kernel
  have n1 : qnf 1 = 17 := by decide +kernel
  have n9 : qnf 9 = 8 := by decide +kernel
  refine kV.il (n := 1) (i := 1) 0 (by decide +kernel) rfl rfl ?_
  refine kV.ic (n := 3) (nI 3) (by decide +kernel) rfl ?_
  refine kV.ge 255 (off := 35) (by decide +kernel) rfl (fun h => ?_) (fun _ => ?_)
  · rw [nI_leI (by omega) (by omega)] at h
    omega
  refine kV.al (n := 0) (i := 0) 1 (by decide +kernel) rfl rfl ?_
  refine kV.gf (i := 101) 14 _ (by decide +kernel) (by decide) rfl (by decide) g14 (h := 769) (by decide +kernel) rfl ?_
  refine kV.il (n := 1) (i := 1) 0 (by decide +kernel) rfl rfl ?_
  refine kV.aN (i := 7) 1 (by decide +kernel) (by decide) (h := 285) (by decide +kernel) (h' := 286) (by decide +kernel) (h'' := 258) (by decide +kernel) (by omega) (by omega) (fun qc => ?_)
  refine kV.du (by decide +kernel) rfl ?_
  refine kV.cT (i := 9) (k' := 7) (As := []) (rest := [_, _, _]) (k_Camp E qc) (by decide +kernel) (by decide +kernel) rfl (h := 287) (by decide +kernel) rfl rfl rfl (by decide) (by omega) (by omega) (Nat.le_of_ble_eq_true rfl) (fun w hw => ?_)
  obtain ⟨ac, rfl⟩ := hw
  simp only [List.append_assoc, List.cons_append]
  refine kV.aq (ci := 1) (t := 4) (r := (qCN 1, qTF 1, qnf 1)) (LA.length + 1) (LA.length + LB.length + 3) (by decide +kernel) (kgl _ _ _ _) (fun _ => rfl) (kgn _ _ _ _ _ _ _) (qcl_at 1 (by decide)) (qin_n (n := 3) hi (by omega)) ?_
  rw [ksl, nI_cl (by omega)]
  refine kV.al (n := 0) (i := 0) 1 (by decide +kernel) rfl rfl ?_
  refine kV.gf (i := 105) 15 _ (by decide +kernel) (by decide) rfl (by decide) g15 (h := 770) (by decide +kernel) rfl ?_
  refine kV.il (n := 1) (i := 1) 0 (by decide +kernel) rfl rfl ?_
  refine kV.aN (i := 79) 9 (by decide +kernel) (by decide) (h := 698) (by decide +kernel) (h' := 644) (by decide +kernel) (h'' := 271) (by decide +kernel) (by omega) (by omega) (fun qw => ?_)
  refine kV.du (by decide +kernel) rfl ?_
  refine kV.cN (i := 81) (k' := 119) (As := []) (rest := [_, _, _]) (k_Weeks E qw) (by decide +kernel) (by decide +kernel) rfl (fun U h => h.2.1) rfl rfl rfl (by decide) (by omega) (by omega) (Nat.le_of_ble_eq_true rfl) (fun w hw => ?_)
  obtain ⟨aw, rfl⟩ := hw
  simp only [List.append_assoc, List.cons_append]
  rw [← List.append_assoc LB]
  refine kV.aq (ci := 9) (t := 5) (r := (qCN 9, qTF 9, qnf 9)) (LA.length + 2) (LA.length + (LB ++ kL1 E qc ac).length + 3) (by decide +kernel) (kgm _ _ _ _ _) (fun _ => rfl) (kgn _ _ _ _ _ _ _) (qcl_at 9 (by decide)) (qin_n (n := 3) hi (by omega)) ?_
  rw [ksm, nI_cl (by omega), List.append_assoc]
  refine kV.ii (i := 1) (n := 1) (v := nI (i + 1)) (lo' := [(1, .int (nI (i + 1))), (0, .ref q)]) 0 (by decide +kernel) rfl (nI_add i 1) (by decide) rfl ?_
  refine kV.go 218 (off := -34) (by decide +kernel) rfl ?_
  have K := K qc ac qw aw
  rw [show nc + 18 = nc + 1 + 11 + 1 + 5 by omega, show ns + 421 = ns + qnf 1 + 96 + qnf 9 + 300 by omega] at K
  exact K
theorem k_FCe {E : qE} {A : Nat → Prop} {B : va_W → Prop} {q c dd nc ns : Nat} {fs : List Value} {LA : va_W} (h1 : nc + 54 ≤ 138) (h2 : ns + 1263 ≤ 3929) (g14 : fs[14]? = some (.ref c)) (g15 : fs[15]? = some (.ref dd))
    (K : ∀ q1 x1 w1 y1 q2 x2 w2 y2 q3 x3 w3 y3, B ((q, .inr (11, fs)) :: (LA ++ ((c, .inl (E.2.2.1 4, 3, .inr (.inr (.inr (.inr (va_up (va_up (va_up (fun _ => none) 0 (some q1)) 1 (some q2)) 2 (some q3))))))) :: ((dd, .inl (E.2.2.1 5, 3, .inr (.inr (.inr (.inr (va_up (va_up (va_up (fun _ => none) 0 (some w1)) 1 (some w2)) 2 (some w3))))))) :: (([] ++ (kL1 E q1 x1 ++ kL9 E w1 y1)) ++ (kL1 E q2 x2 ++ kL9 E w2 y2) ++ (kL1 E q3 x3 ++ kL9 E w3 y3))))))) :
    kV 137 E A B 6 138 3929 nc ns 218 [(1, .int (nI 0)), (0, .ref q)] [] ((q, .inr (11, fs)) :: (LA ++ ((c, .inl (E.2.2.1 4, 3, .inr (.inr (.inr (.inr (fun _ => none)))))) :: ((dd, .inl (E.2.2.1 5, 3, .inr (.inr (.inr (.inr (fun _ => none)))))) :: [])))) := by
  refine k_FCs (i := 0) (by decide) (by omega) (by omega) g14 g15 (fun q1 x1 w1 y1 => ?_)
  refine k_FCs (i := 1) (by decide) (by omega) (by omega) g14 g15 (fun q2 x2 w2 y2 => ?_)
  refine k_FCs (i := 2) (by decide) (by omega) (by omega) g14 g15 (fun q3 x3 w3 y3 => ?_)
  refine kV.il (n := 1) (i := 1) 0 (by decide +kernel) rfl rfl ?_
  refine kV.ic (n := 3) (nI 3) (by decide +kernel) rfl ?_
  refine kV.ge 255 (off := 35) (by decide +kernel) rfl (fun _ => ?_) (fun h => absurd (by decide +kernel) h)
  exact kV.rt (by decide +kernel) rfl (by omega) (by omega) (K _ _ _ _ _ _ _ _ _ _ _ _)
def kL11 (E : qE) (q : Nat) (a : Nat → Nat) (u : Nat → Nat → Nat) (f6 : Nat → Int32) : va_W := (q, .inr (11, [.ref (a 0), .ref (a 1), .ref (a 2), .ref (a 3), .ref (a 4), .ref (a 5), .ref (a 6), .ref (a 7), .ref (a 8), .ref (a 9), .ref (a 10), .ref (a 11), .ref (a 12), .int (nI 0), .ref (a 13), .ref (a 14), .int (nI 0), .int (nI 0), .long (lN 0), .long (lN 1)])) :: (kL1 E (a 0) (u 0) ++ (kL1 E (a 1) (u 1) ++ (kL0 E (a 2) (u 2) (u 3) ++ (kL6 E (a 3) (a 1) (a 2) (u 4) ++ (kL3 E (a 4) (a 1) (a 2) (u 4) ++ (kL4 E (a 5) (a 1) (a 2) (u 4) ++ (kL8 E (a 6) (u 5) f6 ++ (kL7 E (a 7) (u 6) (kld 110).2 ++ (kL2 E (a 8) (a 7) (u 7) (u 8) ++ (kL10 E (a 9) (a 7) (u 9) (u 10) ++ (kL9 E (a 10) (u 11) ++ (kL5 E (a 11) (u 12) ++ ((a 12, .inl (E.2.2.1 0, 5, .inl fun _ => 0)) :: (a 13, .inl (E.2.2.1 4, 3, .inr (.inr (.inr (.inr (va_up (va_up (va_up (fun _ => none) 0 (some (a 15))) 1 (some (a 17))) 2 (some (a 19)))))))) :: (a 14, .inl (E.2.2.1 5, 3, .inr (.inr (.inr (.inr (va_up (va_up (va_up (fun _ => none) 0 (some (a 16))) 1 (some (a 18))) 2 (some (a 20)))))))) :: (kL1 E (a 15) (u 13) ++ (kL9 E (a 16) (u 14) ++ (kL1 E (a 17) (u 15) ++ (kL9 E (a 18) (u 16) ++ (kL1 E (a 19) (u 17) ++ (kL9 E (a 20) (u 18))))))))))))))))))))
set_option maxRecDepth 20000 in
theorem k_FC (E : qE) (q : Nat) : kC 6 137 138 3929 E [.ref q] [(q, .inr (11, kdf 11))] (fun w => ∃ a u f6, (∀ j, j < 4 → f6 j = iI (-1)) ∧ w = kL11 E q a u f6) := by
  refine kC.of (by decide +kernel) (Nat.le_of_ble_eq_true rfl) (fun A => ?_)
  have l0 : (kdf 11).length = qnf 11 := by simp [kdf]
  have ek : kdf 11 = [.null, .null, .null, .null, .null, .null, .null, .null, .null, .null, .null, .null, .null, .int 0, .null, .null, .int 0, .int 0, .long 0, .long 0] := rfl
  rw [ek]
  rw [ek] at l0
  obtain ⟨f0, ef⟩ : ∃ f : List Value, f = [.null, .null, .null, .null, .null, .null, .null, .null, .null, .null, .null, .null, .null, .int 0, .null, .null, .int 0, .int 0, .long 0, .long 0] := ⟨_, rfl⟩
  rw [← ef] at l0 ⊢
  clear ek
  refine kV.al (n := 0) (i := 0) 0 (by decide +kernel) rfl rfl ?_
  refine kV.oi (i := 1) (by decide +kernel) (h := 282) (by decide +kernel) (by decide) ?_
  refine kV.al (n := 0) (i := 0) 0 (by decide +kernel) rfl rfl ?_
  refine kV.aN (i := 7) 1 (by decide +kernel) (by decide) (h := 285) (by decide +kernel) (h' := 286) (by decide +kernel) (h'' := 258) (by decide +kernel) (Nat.le_of_ble_eq_true rfl) (Nat.le_of_ble_eq_true rfl) (fun q5 => ?_)
  refine kV.du (by decide +kernel) rfl ?_
  refine kV.cT (i := 9) (k' := 7) (As := []) (rest := [_, _]) (k_Camp E q5) (by decide +kernel) (by decide +kernel) rfl (h := 287) (by decide +kernel) rfl rfl rfl (by decide) (Nat.le_of_ble_eq_true rfl) (Nat.le_of_ble_eq_true rfl) (Nat.le_of_ble_eq_true rfl) (fun w9 b9 => ?_)
  obtain ⟨a0, rfl⟩ := b9
  refine kV.pF (i := 10) 0 (by decide +kernel) (by decide) rfl (by decide) l0 (h := 739) (by decide +kernel) rfl (.inl rfl) rfl rfl (fun f1 e1 l1 => ?_)
  refine kV.al (n := 0) (i := 0) 0 (by decide +kernel) rfl rfl ?_
  refine kV.aN (i := 7) 1 (by decide +kernel) (by decide) (h := 285) (by decide +kernel) (h' := 286) (by decide +kernel) (h'' := 258) (by decide +kernel) (Nat.le_of_ble_eq_true rfl) (Nat.le_of_ble_eq_true rfl) (fun q16 => ?_)
  refine kV.du (by decide +kernel) rfl ?_
  refine kV.cT (i := 9) (k' := 7) (As := []) (rest := [_, _]) (k_Camp E q16) (by decide +kernel) (by decide +kernel) rfl (h := 287) (by decide +kernel) rfl rfl rfl (by decide) (Nat.le_of_ble_eq_true rfl) (Nat.le_of_ble_eq_true rfl) (Nat.le_of_ble_eq_true rfl) (fun w20 b20 => ?_)
  obtain ⟨a1, rfl⟩ := b20
  refine kV.pF (i := 16) 1 (by decide +kernel) (by decide) rfl (by decide) l1 (h := 740) (by decide +kernel) rfl (.inl rfl) rfl rfl (fun f2 e2 l2 => ?_)
  have g1 := kset_eq e2 l1 (by decide)
  refine kV.al (n := 0) (i := 0) 0 (by decide +kernel) rfl rfl ?_
  refine kV.aN (i := 19) 0 (by decide +kernel) (by decide) (h := 391) (by decide +kernel) (h' := 392) (by decide +kernel) (h'' := 259) (by decide +kernel) (Nat.le_of_ble_eq_true rfl) (Nat.le_of_ble_eq_true rfl) (fun q27 => ?_)
  refine kV.du (by decide +kernel) rfl ?_
  refine kV.cN (i := 21) (k' := 0) (As := []) (rest := [_, _]) (k_Ahead E q27) (by decide +kernel) (by decide +kernel) rfl (fun U h => h.1) rfl rfl rfl (by decide) (Nat.le_of_ble_eq_true rfl) (Nat.le_of_ble_eq_true rfl) (Nat.le_of_ble_eq_true rfl) (fun w31 b31 => ?_)
  obtain ⟨a2, b2, rfl⟩ := b31
  refine kV.pF (i := 22) 2 (by decide +kernel) (by decide) rfl (by decide) l2 (h := 741) (by decide +kernel) rfl (.inl rfl) rfl rfl (fun f3 e3 l3 => ?_)
  have g1 := kset_ne e3 (by decide) g1
  have g2 := kset_eq e3 l2 (by decide)
  refine kV.al (n := 0) (i := 0) 0 (by decide +kernel) rfl rfl ?_
  refine kV.aN (i := 26) 6 (by decide +kernel) (by decide) (h := 417) (by decide +kernel) (h' := 418) (by decide +kernel) (h'' := 260) (by decide +kernel) (Nat.le_of_ble_eq_true rfl) (Nat.le_of_ble_eq_true rfl) (fun q38 => ?_)
  refine kV.du (by decide +kernel) rfl ?_
  refine kV.al (n := 0) (i := 0) 0 (by decide +kernel) rfl rfl ?_
  refine kV.gf (i := 16) 1 _ (by decide +kernel) (by decide) rfl (by decide) g1 (h := 740) (by decide +kernel) rfl ?_
  refine kV.al (n := 0) (i := 0) 0 (by decide +kernel) rfl rfl ?_
  refine kV.gf (i := 22) 2 _ (by decide +kernel) (by decide) rfl (by decide) g2 (h := 741) (by decide +kernel) rfl ?_
  refine kV.cT (i := 28) (k' := 74) (As := [.ref q16, .ref q27]) (rest := [_, _]) (k_Plans E q38 q16 q27) (by decide +kernel) (by decide +kernel) rfl (h := 419) (by decide +kernel) rfl rfl rfl (by decide) (Nat.le_of_ble_eq_true rfl) (Nat.le_of_ble_eq_true rfl) (Nat.le_of_ble_eq_true rfl) (fun w50 b50 => ?_)
  obtain ⟨a3, rfl⟩ := b50
  refine kV.pF (i := 31) 3 (by decide +kernel) (by decide) rfl (by decide) l3 (h := 742) (by decide +kernel) rfl (.inl rfl) rfl rfl (fun f4 e4 l4 => ?_)
  have g1 := kset_ne e4 (by decide) g1
  have g2 := kset_ne e4 (by decide) g2
  refine kV.al (n := 0) (i := 0) 0 (by decide +kernel) rfl rfl ?_
  refine kV.aN (i := 35) 3 (by decide +kernel) (by decide) (h := 434) (by decide +kernel) (h' := 435) (by decide +kernel) (h'' := 261) (by decide +kernel) (Nat.le_of_ble_eq_true rfl) (Nat.le_of_ble_eq_true rfl) (fun q57 => ?_)
  refine kV.du (by decide +kernel) rfl ?_
  refine kV.al (n := 0) (i := 0) 0 (by decide +kernel) rfl rfl ?_
  refine kV.gf (i := 16) 1 _ (by decide +kernel) (by decide) rfl (by decide) g1 (h := 740) (by decide +kernel) rfl ?_
  refine kV.al (n := 0) (i := 0) 0 (by decide +kernel) rfl rfl ?_
  refine kV.gf (i := 22) 2 _ (by decide +kernel) (by decide) rfl (by decide) g2 (h := 741) (by decide +kernel) rfl ?_
  refine kV.cT (i := 37) (k' := 40) (As := [.ref q16, .ref q27]) (rest := [_, _]) (k_Clues E q57 q16 q27) (by decide +kernel) (by decide +kernel) rfl (h := 436) (by decide +kernel) rfl rfl rfl (by decide) (Nat.le_of_ble_eq_true rfl) (Nat.le_of_ble_eq_true rfl) (Nat.le_of_ble_eq_true rfl) (fun w69 b69 => ?_)
  obtain ⟨a4, rfl⟩ := b69
  refine kV.pF (i := 38) 4 (by decide +kernel) (by decide) rfl (by decide) l4 (h := 743) (by decide +kernel) rfl (.inl rfl) rfl rfl (fun f5 e5 l5 => ?_)
  have g1 := kset_ne e5 (by decide) g1
  have g2 := kset_ne e5 (by decide) g2
  refine kV.al (n := 0) (i := 0) 0 (by decide +kernel) rfl rfl ?_
  refine kV.aN (i := 42) 4 (by decide +kernel) (by decide) (h := 459) (by decide +kernel) (h' := 460) (by decide +kernel) (h'' := 262) (by decide +kernel) (Nat.le_of_ble_eq_true rfl) (Nat.le_of_ble_eq_true rfl) (fun q76 => ?_)
  refine kV.du (by decide +kernel) rfl ?_
  refine kV.al (n := 0) (i := 0) 0 (by decide +kernel) rfl rfl ?_
  refine kV.gf (i := 16) 1 _ (by decide +kernel) (by decide) rfl (by decide) g1 (h := 740) (by decide +kernel) rfl ?_
  refine kV.al (n := 0) (i := 0) 0 (by decide +kernel) rfl rfl ?_
  refine kV.gf (i := 22) 2 _ (by decide +kernel) (by decide) rfl (by decide) g2 (h := 741) (by decide +kernel) rfl ?_
  refine kV.cT (i := 44) (k' := 50) (As := [.ref q16, .ref q27]) (rest := [_, _]) (k_Games E q76 q16 q27) (by decide +kernel) (by decide +kernel) rfl (h := 461) (by decide +kernel) rfl rfl rfl (by decide) (Nat.le_of_ble_eq_true rfl) (Nat.le_of_ble_eq_true rfl) (Nat.le_of_ble_eq_true rfl) (fun w88 b88 => ?_)
  obtain ⟨a5, rfl⟩ := b88
  refine kV.pF (i := 45) 5 (by decide +kernel) (by decide) rfl (by decide) l5 (h := 744) (by decide +kernel) rfl (.inl rfl) rfl rfl (fun f6 e6 l6 => ?_)
  have g1 := kset_ne e6 (by decide) g1
  have g2 := kset_ne e6 (by decide) g2
  refine kV.al (n := 0) (i := 0) 0 (by decide +kernel) rfl rfl ?_
  refine kV.aN (i := 49) 8 (by decide +kernel) (by decide) (h := 472) (by decide +kernel) (h' := 473) (by decide +kernel) (h'' := 263) (by decide +kernel) (Nat.le_of_ble_eq_true rfl) (Nat.le_of_ble_eq_true rfl) (fun q95 => ?_)
  refine kV.du (by decide +kernel) rfl ?_
  refine kV.cT (i := 51) (k' := 108) (As := []) (rest := [_, _]) (k_Trays E q95) (by decide +kernel) (by decide +kernel) rfl (h := 474) (by decide +kernel) rfl rfl rfl (by decide) (Nat.le_of_ble_eq_true rfl) (Nat.le_of_ble_eq_true rfl) (Nat.le_of_ble_eq_true rfl) (fun w99 b99 => ?_)
  obtain ⟨a6, f6, h6, rfl⟩ := b99
  refine kV.pF (i := 52) 6 (by decide +kernel) (by decide) rfl (by decide) l6 (h := 745) (by decide +kernel) rfl (.inl rfl) rfl rfl (fun f7 e7 l7 => ?_)
  have g1 := kset_ne e7 (by decide) g1
  have g2 := kset_ne e7 (by decide) g2
  refine kV.al (n := 0) (i := 0) 0 (by decide +kernel) rfl rfl ?_
  refine kV.aN (i := 56) 7 (by decide +kernel) (by decide) (h := 488) (by decide +kernel) (h' := 489) (by decide +kernel) (h'' := 264) (by decide +kernel) (Nat.le_of_ble_eq_true rfl) (Nat.le_of_ble_eq_true rfl) (fun q106 => ?_)
  refine kV.du (by decide +kernel) rfl ?_
  refine kV.cT (i := 58) (k' := 87) (As := []) (rest := [_, _]) (k_Text E q106) (by decide +kernel) (by decide +kernel) rfl (h := 490) (by decide +kernel) rfl rfl rfl (by decide) (Nat.le_of_ble_eq_true rfl) (Nat.le_of_ble_eq_true rfl) (Nat.le_of_ble_eq_true rfl) (fun w110 b110 => ?_)
  obtain ⟨a7, rfl⟩ := b110
  refine kV.pF (i := 59) 7 (by decide +kernel) (by decide) rfl (by decide) l7 (h := 746) (by decide +kernel) rfl (.inl rfl) rfl rfl (fun f8 e8 l8 => ?_)
  have g1 := kset_ne e8 (by decide) g1
  have g2 := kset_ne e8 (by decide) g2
  have g7 := kset_eq e8 l7 (by decide)
  refine kV.al (n := 0) (i := 0) 0 (by decide +kernel) rfl rfl ?_
  refine kV.aN (i := 63) 2 (by decide +kernel) (by decide) (h := 615) (by decide +kernel) (h' := 616) (by decide +kernel) (h'' := 269) (by decide +kernel) (Nat.le_of_ble_eq_true rfl) (Nat.le_of_ble_eq_true rfl) (fun q117 => ?_)
  refine kV.du (by decide +kernel) rfl ?_
  refine kV.al (n := 0) (i := 0) 0 (by decide +kernel) rfl rfl ?_
  refine kV.gf (i := 59) 7 _ (by decide +kernel) (by decide) rfl (by decide) g7 (h := 746) (by decide +kernel) rfl ?_
  refine kV.cT (i := 65) (k' := 33) (As := [.ref q106]) (rest := [_, _]) (k_CampReader E q117 q106) (by decide +kernel) (by decide +kernel) rfl (h := 617) (by decide +kernel) rfl rfl rfl (by decide) (Nat.le_of_ble_eq_true rfl) (Nat.le_of_ble_eq_true rfl) (Nat.le_of_ble_eq_true rfl) (fun w125 b125 => ?_)
  obtain ⟨a8, b8, rfl⟩ := b125
  refine kV.pF (i := 68) 8 (by decide +kernel) (by decide) rfl (by decide) l8 (h := 747) (by decide +kernel) rfl (.inl rfl) rfl rfl (fun f9 e9 l9 => ?_)
  have g1 := kset_ne e9 (by decide) g1
  have g2 := kset_ne e9 (by decide) g2
  have g7 := kset_ne e9 (by decide) g7
  refine kV.al (n := 0) (i := 0) 0 (by decide +kernel) rfl rfl ?_
  refine kV.aN (i := 72) 10 (by decide +kernel) (by decide) (h := 637) (by decide +kernel) (h' := 638) (by decide +kernel) (h'' := 270) (by decide +kernel) (Nat.le_of_ble_eq_true rfl) (Nat.le_of_ble_eq_true rfl) (fun q132 => ?_)
  refine kV.du (by decide +kernel) rfl ?_
  refine kV.al (n := 0) (i := 0) 0 (by decide +kernel) rfl rfl ?_
  refine kV.gf (i := 59) 7 _ (by decide +kernel) (by decide) rfl (by decide) g7 (h := 746) (by decide +kernel) rfl ?_
  refine kV.cT (i := 74) (k' := 126) (As := [.ref q106]) (rest := [_, _]) (k_WeeksReader E q132 q106) (by decide +kernel) (by decide +kernel) rfl (h := 639) (by decide +kernel) rfl rfl rfl (by decide) (Nat.le_of_ble_eq_true rfl) (Nat.le_of_ble_eq_true rfl) (Nat.le_of_ble_eq_true rfl) (fun w140 b140 => ?_)
  obtain ⟨a9, b9, rfl⟩ := b140
  refine kV.pF (i := 75) 9 (by decide +kernel) (by decide) rfl (by decide) l9 (h := 748) (by decide +kernel) rfl (.inl rfl) rfl rfl (fun f10 e10 l10 => ?_)
  have g1 := kset_ne e10 (by decide) g1
  have g2 := kset_ne e10 (by decide) g2
  have g7 := kset_ne e10 (by decide) g7
  refine kV.al (n := 0) (i := 0) 0 (by decide +kernel) rfl rfl ?_
  refine kV.aN (i := 79) 9 (by decide +kernel) (by decide) (h := 698) (by decide +kernel) (h' := 644) (by decide +kernel) (h'' := 271) (by decide +kernel) (Nat.le_of_ble_eq_true rfl) (Nat.le_of_ble_eq_true rfl) (fun q147 => ?_)
  refine kV.du (by decide +kernel) rfl ?_
  refine kV.cN (i := 81) (k' := 119) (As := []) (rest := [_, _]) (k_Weeks E q147) (by decide +kernel) (by decide +kernel) rfl (fun U h => h.2.1) rfl rfl rfl (by decide) (Nat.le_of_ble_eq_true rfl) (Nat.le_of_ble_eq_true rfl) (Nat.le_of_ble_eq_true rfl) (fun w151 b151 => ?_)
  obtain ⟨a10, rfl⟩ := b151
  refine kV.pF (i := 82) 10 (by decide +kernel) (by decide) rfl (by decide) l10 (h := 749) (by decide +kernel) rfl (.inl rfl) rfl rfl (fun f11 e11 l11 => ?_)
  have g1 := kset_ne e11 (by decide) g1
  have g2 := kset_ne e11 (by decide) g2
  have g7 := kset_ne e11 (by decide) g7
  refine kV.al (n := 0) (i := 0) 0 (by decide +kernel) rfl rfl ?_
  refine kV.aN (i := 86) 5 (by decide +kernel) (by decide) (h := 700) (by decide +kernel) (h' := 701) (by decide +kernel) (h'' := 272) (by decide +kernel) (Nat.le_of_ble_eq_true rfl) (Nat.le_of_ble_eq_true rfl) (fun q158 => ?_)
  refine kV.du (by decide +kernel) rfl ?_
  refine kV.cN (i := 88) (k' := 62) (As := []) (rest := [_, _]) (k_Life E q158) (by decide +kernel) (by decide +kernel) rfl (fun U h => h.2.2.1) rfl rfl rfl (by decide) (Nat.le_of_ble_eq_true rfl) (Nat.le_of_ble_eq_true rfl) (Nat.le_of_ble_eq_true rfl) (fun w162 b162 => ?_)
  obtain ⟨a11, rfl⟩ := b162
  refine kV.pF (i := 89) 11 (by decide +kernel) (by decide) rfl (by decide) l11 (h := 750) (by decide +kernel) rfl (.inl rfl) rfl rfl (fun f12 e12 l12 => ?_)
  have g1 := kset_ne e12 (by decide) g1
  have g2 := kset_ne e12 (by decide) g2
  have g7 := kset_ne e12 (by decide) g7
  refine kV.al (n := 0) (i := 0) 0 (by decide +kernel) rfl rfl ?_
  refine kV.ic (n := 5) (nI 5) (by decide +kernel) rfl ?_
  refine kV.aI 5 (by decide +kernel) (h := 390) (by decide +kernel) (by decide +kernel) rfl rfl (Nat.le_of_ble_eq_true rfl) (Nat.le_of_ble_eq_true rfl) (fun q170 => ?_)
  refine kV.pF (i := 93) 12 (by decide +kernel) (by decide) rfl (by decide) l12 (h := 751) (by decide +kernel) rfl (.inl rfl) rfl rfl (fun f13 e13 l13 => ?_)
  have g1 := kset_ne e13 (by decide) g1
  have g2 := kset_ne e13 (by decide) g2
  have g7 := kset_ne e13 (by decide) g7
  refine kV.al (n := 0) (i := 0) 0 (by decide +kernel) rfl rfl ?_
  refine kV.ic (n := 0) (nI 0) (by decide +kernel) rfl ?_
  refine kV.pF (i := 97) 13 (by decide +kernel) (by decide) rfl (by decide) l13 (h := 768) (by decide +kernel) rfl (.inl rfl) rfl rfl (fun f14 e14 l14 => ?_)
  have g1 := kset_ne e14 (by decide) g1
  have g2 := kset_ne e14 (by decide) g2
  have g7 := kset_ne e14 (by decide) g7
  refine kV.al (n := 0) (i := 0) 0 (by decide +kernel) rfl rfl ?_
  refine kV.ic (n := 3) (nI 3) (by decide +kernel) rfl ?_
  refine kV.aQ (i := 7) 4 3 "ForgiveCamp$Camp" (by decide +kernel) (h := 285) (by decide +kernel) (fun U h => h.2.2.2.2.1) (fun _ => rfl) (by decide +kernel) rfl rfl (Nat.le_of_ble_eq_true rfl) (Nat.le_of_ble_eq_true rfl) (fun q182 => ?_)
  refine kV.pF (i := 101) 14 (by decide +kernel) (by decide) rfl (by decide) l14 (h := 769) (by decide +kernel) rfl (.inl rfl) rfl rfl (fun f15 e15 l15 => ?_)
  have g1 := kset_ne e15 (by decide) g1
  have g2 := kset_ne e15 (by decide) g2
  have g7 := kset_ne e15 (by decide) g7
  have g14 := kset_eq e15 l14 (by decide)
  refine kV.al (n := 0) (i := 0) 0 (by decide +kernel) rfl rfl ?_
  refine kV.ic (n := 3) (nI 3) (by decide +kernel) rfl ?_
  refine kV.aQ (i := 79) 5 3 "ForgiveCamp$Weeks" (by decide +kernel) (h := 698) (by decide +kernel) (fun U h => h.2.2.2.2.2) (fun _ => rfl) (by decide +kernel) rfl rfl (Nat.le_of_ble_eq_true rfl) (Nat.le_of_ble_eq_true rfl) (fun q190 => ?_)
  refine kV.pF (i := 105) 15 (by decide +kernel) (by decide) rfl (by decide) l15 (h := 770) (by decide +kernel) rfl (.inl rfl) rfl rfl (fun f16 e16 l16 => ?_)
  have g1 := kset_ne e16 (by decide) g1
  have g2 := kset_ne e16 (by decide) g2
  have g7 := kset_ne e16 (by decide) g7
  have g14 := kset_ne e16 (by decide) g14
  have g15 := kset_eq e16 l15 (by decide)
  refine kV.al (n := 0) (i := 0) 0 (by decide +kernel) rfl rfl ?_
  refine kV.ic (n := 0) (nI 0) (by decide +kernel) rfl ?_
  refine kV.pF (i := 109) 16 (by decide +kernel) (by decide) rfl (by decide) l16 (h := 771) (by decide +kernel) rfl (.inl rfl) rfl rfl (fun f17 e17 l17 => ?_)
  have g1 := kset_ne e17 (by decide) g1
  have g2 := kset_ne e17 (by decide) g2
  have g7 := kset_ne e17 (by decide) g7
  have g14 := kset_ne e17 (by decide) g14
  have g15 := kset_ne e17 (by decide) g15
  refine kV.al (n := 0) (i := 0) 0 (by decide +kernel) rfl rfl ?_
  refine kV.ic (n := 0) (nI 0) (by decide +kernel) rfl ?_
  refine kV.pF (i := 113) 17 (by decide +kernel) (by decide) rfl (by decide) l17 (h := 772) (by decide +kernel) rfl (.inl rfl) rfl rfl (fun f18 e18 l18 => ?_)
  have g1 := kset_ne e18 (by decide) g1
  have g2 := kset_ne e18 (by decide) g2
  have g7 := kset_ne e18 (by decide) g7
  have g14 := kset_ne e18 (by decide) g14
  have g15 := kset_ne e18 (by decide) g15
  refine kV.al (n := 0) (i := 0) 0 (by decide +kernel) rfl rfl ?_
  refine kV.lc (n := 0) (lN 0) (by decide +kernel) rfl ?_
  refine kV.pF (i := 116) 18 (by decide +kernel) (by decide) rfl (by decide) l18 (h := 773) (by decide +kernel) rfl (.inl rfl) rfl rfl (fun f19 e19 l19 => ?_)
  have g1 := kset_ne e19 (by decide) g1
  have g2 := kset_ne e19 (by decide) g2
  have g7 := kset_ne e19 (by decide) g7
  have g14 := kset_ne e19 (by decide) g14
  have g15 := kset_ne e19 (by decide) g15
  refine kV.al (n := 0) (i := 0) 0 (by decide +kernel) rfl rfl ?_
  refine kV.lc (n := 1) (lN 1) (by decide +kernel) rfl ?_
  refine kV.pF (i := 120) 19 (by decide +kernel) (by decide) rfl (by decide) l19 (h := 774) (by decide +kernel) rfl (.inl rfl) rfl rfl (fun f20 e20 l20 => ?_)
  have g1 := kset_ne e20 (by decide) g1
  have g2 := kset_ne e20 (by decide) g2
  have g7 := kset_ne e20 (by decide) g7
  have g14 := kset_ne e20 (by decide) g14
  have g15 := kset_ne e20 (by decide) g15
  refine kV.ic (n := 0) (nI 0) (by decide +kernel) rfl ?_
  refine kV.is (n := 1) (i := 1) (lo' := [(1, .int (nI 0)), (0, .ref q)]) (by decide +kernel) rfl (by decide) rfl ?_
  rw [List.append_assoc _ [(q182, _)] [(q190, _)]]
  refine k_FCe (Nat.le_of_ble_eq_true rfl) (Nat.le_of_ble_eq_true rfl) g14 g15 (fun q1 x1 w1 y1 q2 x2 w2 y2 q3 x3 w3 y3 => ?_)
  clear g1 g2 g7 g14 g15
  subst ef
  simp only [List.set_cons_zero, List.set_cons_succ] at e1
  subst e1
  simp only [List.set_cons_zero, List.set_cons_succ] at e2
  subst e2
  simp only [List.set_cons_zero, List.set_cons_succ] at e3
  subst e3
  simp only [List.set_cons_zero, List.set_cons_succ] at e4
  subst e4
  simp only [List.set_cons_zero, List.set_cons_succ] at e5
  subst e5
  simp only [List.set_cons_zero, List.set_cons_succ] at e6
  subst e6
  simp only [List.set_cons_zero, List.set_cons_succ] at e7
  subst e7
  simp only [List.set_cons_zero, List.set_cons_succ] at e8
  subst e8
  simp only [List.set_cons_zero, List.set_cons_succ] at e9
  subst e9
  simp only [List.set_cons_zero, List.set_cons_succ] at e10
  subst e10
  simp only [List.set_cons_zero, List.set_cons_succ] at e11
  subst e11
  simp only [List.set_cons_zero, List.set_cons_succ] at e12
  subst e12
  simp only [List.set_cons_zero, List.set_cons_succ] at e13
  subst e13
  simp only [List.set_cons_zero, List.set_cons_succ] at e14
  subst e14
  simp only [List.set_cons_zero, List.set_cons_succ] at e15
  subst e15
  simp only [List.set_cons_zero, List.set_cons_succ] at e16
  subst e16
  simp only [List.set_cons_zero, List.set_cons_succ] at e17
  subst e17
  simp only [List.set_cons_zero, List.set_cons_succ] at e18
  subst e18
  simp only [List.set_cons_zero, List.set_cons_succ] at e19
  subst e19
  simp only [List.set_cons_zero, List.set_cons_succ] at e20
  subst e20
  refine ⟨fun i => [q5, q16, q27, q38, q57, q76, q95, q106, q117, q132, q147, q158, q170, q182, q190, q1, w1, q2, w2, q3, w3].getD i 0, fun i => [a0, a1, a2, b2, a4, a6, a7, a8, b8, a9, b9, a10, a11, x1, y1, x2, y2, x3, y3].getD i (fun _ => 0), f6, h6, ?_⟩
  simp only [List.nil_append, List.append_assoc, List.cons_append]
  rfl
