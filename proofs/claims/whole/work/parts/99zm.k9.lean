/-! constructors: the class -/
theorem kgl {α : Type} (x c : α) (LA R : List α) : (x :: (LA ++ (c :: R)))[LA.length + 1]? = some c := by
  rw [List.getElem?_cons_succ, List.getElem?_append_right (Nat.le_refl _), Nat.sub_self]
  rfl
theorem kgm {α : Type} (x c c' : α) (LA R : List α) : (x :: (LA ++ (c' :: (c :: R))))[LA.length + 2]? = some c := by
  rw [List.getElem?_cons_succ, List.getElem?_append_right (by omega), Nat.add_sub_cancel_left]
  rfl
theorem ksl {α : Type} (x c c' : α) (LA R : List α) : (x :: (LA ++ (c :: R))).set (LA.length + 1) c' = x :: (LA ++ (c' :: R)) := by
  rw [List.set_cons_succ, List.set_append_right _ _ (Nat.le_refl _), Nat.sub_self, List.set_cons_zero]
theorem ksm {α : Type} (x c c' d : α) (LA R : List α) : (x :: (LA ++ (d :: (c :: R)))).set (LA.length + 2) c' = x :: (LA ++ (d :: (c' :: R))) := by
  rw [List.set_cons_succ, List.set_append_right _ _ (by omega), Nat.add_sub_cancel_left]
  rfl
theorem kgn {α : Type} (x c c' v : α) (LA LB R : List α) : (x :: (LA ++ (c :: (c' :: (LB ++ (v :: R))))))[LA.length + LB.length + 3]? = some v := by
  rw [List.getElem?_cons_succ, List.getElem?_append_right (by omega), show LA.length + LB.length + 2 - LA.length = LB.length + 2 by omega]
  show (LB ++ (v :: R))[LB.length]? = some v
  rw [List.getElem?_append_right (Nat.le_refl _), Nat.sub_self]
  rfl
theorem k_FCs {E : qE} {A : Nat → Prop} {B : va_W → Prop} {q c dd nc ns i : Nat} {fs : List Value} {LA LB : va_W} {f g : Nat → Option Nat} (hi : i < 3) (h1 : nc + 18 ≤ 138) (h2 : ns + 421 ≤ 3929) (g14 : fs[14]? = some (.ref c)) (g15 : fs[15]? = some (.ref dd))
    (K : ∀ qc ac qw aw, kV 137 E A B 6 138 3929 (nc + 18) (ns + 421) 218 [(1, .int (nI (i + 1))), (0, .ref q)] [] ((q, .inr (11, fs)) :: (LA ++ ((c, .inl (E.2.2.1 4, 3, .inr (.inr (.inr (.inr (va_up f i (some qc))))))) :: ((dd, .inl (E.2.2.1 5, 3, .inr (.inr (.inr (.inr (va_up g i (some qw))))))) :: (LB ++ (kL1 E qc ac ++ kL9 E qw aw))))))) :
    kV 137 E A B 6 138 3929 nc ns 218 [(1, .int (nI i)), (0, .ref q)] [] ((q, .inr (11, fs)) :: (LA ++ ((c, .inl (E.2.2.1 4, 3, .inr (.inr (.inr (.inr f))))) :: ((dd, .inl (E.2.2.1 5, 3, .inr (.inr (.inr (.inr g))))) :: LB)))) := by
  have q1 : (113 : Nat) = qnf 1 + 96 := by decide +kernel
  have n1 : qnf 1 = 17 := by decide +kernel
  have n9 : qnf 9 = 8 := by decide +kernel
  refine kV.il (n := 1) (i := 1) 0 (by decide +kernel) rfl rfl ?_
  refine kV.ic (n := 3) (nI 3) (by decide +kernel) rfl ?_
  refine kV.ge 255 (off := 35) (by decide +kernel) rfl (fun h => ?_) (fun _ => ?_)
  · rw [nI_leI (by omega) (by omega)] at h
    omega
  refine kV.al (n := 0) (i := 0) 1 (by decide +kernel) rfl rfl ?_
  refine kV.gf (i := 101) 14 _ (by decide +kernel) (by decide) rfl (by decide) g14 (h := 769) (by decide +kernel) rfl ?_
  refine kV.il (n := 1) (i := 1) 0 (by decide +kernel) rfl rfl ?_
  refine kV.aN (i := 7) 1 (by decide +kernel) (by decide) (h := 285) (by decide +kernel) (h' := 286) (by decide +kernel) (h'' := 258) (by decide +kernel) (by omega) (by omega) (fun qc => ?_)
  refine kV.du (by decide +kernel) rfl ?_
  refine kV.cT (i := 9) (k' := 7) (As := []) (rest := [_, _, _]) (k_Camp E qc) (by decide +kernel) (by decide +kernel) rfl (h := 287) (by decide +kernel) rfl rfl rfl (by decide) (by omega) (by omega) (Nat.le_of_ble_eq_true rfl) (fun w hw => ?_)
  obtain ⟨ac, rfl⟩ := hw
  simp only [List.append_assoc, List.cons_append]
  refine kV.aq (ci := 1) (t := 4) (r := (qCN 1, qTF 1, qnf 1)) (LA.length + 1) (LA.length + LB.length + 3) (by decide +kernel) (kgl _ _ _ _) (fun _ => rfl) (kgn _ _ _ _ _ _ _) (qcl_at 1 (by decide)) (qin_n (n := 3) hi (by omega)) ?_
  rw [ksl, nI_cl (by omega)]
  refine kV.al (n := 0) (i := 0) 1 (by decide +kernel) rfl rfl ?_
  refine kV.gf (i := 105) 15 _ (by decide +kernel) (by decide) rfl (by decide) g15 (h := 770) (by decide +kernel) rfl ?_
  refine kV.il (n := 1) (i := 1) 0 (by decide +kernel) rfl rfl ?_
  refine kV.aN (i := 79) 9 (by decide +kernel) (by decide) (h := 698) (by decide +kernel) (h' := 644) (by decide +kernel) (h'' := 271) (by decide +kernel) (by omega) (by omega) (fun qw => ?_)
  refine kV.du (by decide +kernel) rfl ?_
  refine kV.cN (i := 81) (k' := 119) (As := []) (rest := [_, _, _]) (k_Weeks E qw) (by decide +kernel) (by decide +kernel) rfl (fun U h => h.2.1) rfl rfl rfl (by decide) (by omega) (by omega) (Nat.le_of_ble_eq_true rfl) (fun w hw => ?_)
  obtain ⟨aw, rfl⟩ := hw
  simp only [List.append_assoc, List.cons_append]
  rw [← List.append_assoc LB]
  refine kV.aq (ci := 9) (t := 5) (r := (qCN 9, qTF 9, qnf 9)) (LA.length + 2) (LA.length + (LB ++ kL1 E qc ac).length + 3) (by decide +kernel) (kgm _ _ _ _ _) (fun _ => rfl) (kgn _ _ _ _ _ _ _) (qcl_at 9 (by decide)) (qin_n (n := 3) hi (by omega)) ?_
  rw [ksm, nI_cl (by omega), List.append_assoc]
  refine kV.ii (i := 1) (n := 1) (v := nI (i + 1)) (lo' := [(1, .int (nI (i + 1))), (0, .ref q)]) 0 (by decide +kernel) rfl (nI_add i 1) (by decide) rfl ?_
  refine kV.go 218 (off := -34) (by decide +kernel) rfl ?_
  have K := K qc ac qw aw
  rw [show nc + 18 = nc + 1 + 11 + 1 + 5 by omega, show ns + 421 = ns + qnf 1 + 96 + qnf 9 + 300 by omega] at K
  exact K
