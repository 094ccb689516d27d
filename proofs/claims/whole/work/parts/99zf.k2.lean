/-! constructors: new cells, fields, calls -/
section KN
variable {k : Nat} {E : qE} {A : Nat → Prop} {B : va_W → Prop} {d mc ms nc ns pc : Nat} {lo : List (Nat × Value)} {st : List Value} {ws : va_W}
theorem kV.na {at0 : ArrayType} (ty : FieldType) (t N' : Nat) (a0 : vp_A) {h : Nat} {n : Int32} (hd : decode (qMT k).2.1 pc = .ok (.newarray at0, 2)) (hty : newarray.typeOf at0 = ty) (hra : ∀ (U : State) cA, va_RA U cA ty → U.vm.findClass ("[" ++ ty.toString) = some cA) (hw : qIs h (.arrayClass ty) = true) (hj : ∀ E : qE, (qtys E)[t]? = some (E.2.2.1 t, ty)) (ha : ∀ cA : ClassId, vp_cell cA a0 = arrV cA N' (fun _ => defaultValue ty)) (hn : ¬ n < 0) (hN : n.toNatClampNeg = N') (hby : N' * componentBytes ty ≤ 536870912) (h1 : nc + 1 ≤ mc) (h2 : ns + N' ≤ ms)
    (K : ∀ q, kV k E A B d mc ms (nc + 1) (ns + N') (pc + 2) lo (.ref q :: st) (ws ++ [(q, .inl (E.2.2.1 t, a0))])) : kV k E A B d mc ms nc ns pc lo (.int n :: st) ws := by
  intro p l e s m args below meth c X hA hAE H locs ls hP hD hS hL
  obtain ⟨hx, hb, hml, hr, hlk, hown, hts, hKK, -⟩ := id X
  refine va_newa (atype := at0) (D := E.1) hx hb (by rw [hty]; exact hts _ (qIs_in hw)) hty hKK hP hD hS hA ha hn hN hby h1 h2 hd (fun q cA H1 hK1 hP1 hD1 hS1 => ?_)
  have e1 := hra s cA (hK1.2 (qtys E).length (cA, ty) (by simp)).2
  have e2 := hra s _ (hKK.2 t _ (hj E)).2
  have e3 : cA = E.2.2.1 t := Option.some.inj (e1.symm.trans e2)
  subst e3
  exact K q p l e s m args below meth c X hA hAE H1 locs ls hP1 hD1 hS1 hL
theorem kV.nwI {h : Nat} {n : Int32} (N' : Nat) (hd : decode (qMT k).2.1 pc = .ok (.newarray .int, 2)) (hw : qIs h (.arrayClass .int) = true) (hn : ¬ n < 0) (hN : n.toNatClampNeg = N') (hby : N' * 4 ≤ 536870912) (h1 : nc + 1 ≤ mc) (h2 : ns + N' ≤ ms) (K : ∀ q, kV k E A B d mc ms (nc + 1) (ns + N') (pc + 2) lo (.ref q :: st) (ws ++ [(q, .inl (E.2.2.1 0, N', .inl (fun _ => 0)))])) : kV k E A B d mc ms nc ns pc lo (.int n :: st) ws :=
  kV.na .int 0 N' (N', .inl (fun _ => 0)) hd rfl (fun _ _ h => h) hw (fun _ => rfl) (fun _ => rfl) hn hN hby h1 h2 K
theorem kV.nwL {h : Nat} {n : Int32} (N' : Nat) (hd : decode (qMT k).2.1 pc = .ok (.newarray .long, 2)) (hw : qIs h (.arrayClass .long) = true) (hn : ¬ n < 0) (hN : n.toNatClampNeg = N') (hby : N' * 8 ≤ 536870912) (h1 : nc + 1 ≤ mc) (h2 : ns + N' ≤ ms) (K : ∀ q, kV k E A B d mc ms (nc + 1) (ns + N') (pc + 2) lo (.ref q :: st) (ws ++ [(q, .inl (E.2.2.1 1, N', .inr (.inl (fun _ => 0))))])) : kV k E A B d mc ms nc ns pc lo (.int n :: st) ws :=
  kV.na .long 1 N' (N', .inr (.inl (fun _ => 0))) hd rfl (fun _ _ h => h) hw (fun _ => rfl) (fun _ => rfl) hn hN hby h1 h2 K
theorem kV.nwB {h : Nat} {n : Int32} (N' : Nat) (hd : decode (qMT k).2.1 pc = .ok (.newarray .byte, 2)) (hw : qIs h (.arrayClass .byte) = true) (hn : ¬ n < 0) (hN : n.toNatClampNeg = N') (hby : N' * 1 ≤ 536870912) (h1 : nc + 1 ≤ mc) (h2 : ns + N' ≤ ms) (K : ∀ q, kV k E A B d mc ms (nc + 1) (ns + N') (pc + 2) lo (.ref q :: st) (ws ++ [(q, .inl (E.2.2.1 2, N', .inl (fun _ => 0)))])) : kV k E A B d mc ms nc ns pc lo (.int n :: st) ws :=
  kV.na .byte 2 N' (N', .inl (fun _ => 0)) hd rfl (fun _ _ h => h) hw (fun _ => rfl) (fun _ => rfl) hn hN hby h1 h2 K
theorem kV.nwZ {h : Nat} {n : Int32} (N' : Nat) (hd : decode (qMT k).2.1 pc = .ok (.newarray .boolean, 2)) (hw : qIs h (.arrayClass .boolean) = true) (hn : ¬ n < 0) (hN : n.toNatClampNeg = N') (hby : N' * 1 ≤ 536870912) (h1 : nc + 1 ≤ mc) (h2 : ns + N' ≤ ms) (K : ∀ q, kV k E A B d mc ms (nc + 1) (ns + N') (pc + 2) lo (.ref q :: st) (ws ++ [(q, .inl (E.2.2.1 3, N', .inl (fun _ => 0)))])) : kV k E A B d mc ms nc ns pc lo (.int n :: st) ws :=
  kV.na .boolean 3 N' (N', .inl (fun _ => 0)) hd rfl (fun _ _ h => h) hw (fun _ => rfl) (fun _ => rfl) hn hN hby h1 h2 K
theorem kV.nq {i h : Nat} {n : Int32} (t N' : Nat) (C : String) (hd : decode (qMT k).2.1 pc = .ok (.anewarray i, 3)) (hw : qIs h (.classLink (qCN (qMT k).2.2.2.2.1) i C) = true) (hw' : ∀ U, kNw U → va_AO C U) (hj : ∀ E : qE, (qtys E)[t]? = some (E.2.2.1 t, .object C)) (hn : ¬ n < 0) (hN : n.toNatClampNeg = N') (hby : N' * 4 ≤ 536870912) (h1 : nc + 1 ≤ mc) (h2 : ns + N' ≤ ms)
    (K : ∀ q, kV k E A B d mc ms (nc + 1) (ns + N') (pc + 3) lo (.ref q :: st) (ws ++ [(q, .inl (E.2.2.1 t, N', .inr (.inr (.inr (.inr (fun _ => none))))))])) : kV k E A B d mc ms nc ns pc lo (.int n :: st) ws := by
  intro p l e s m args below meth c X hA hAE H locs ls hP hD hS hL
  obtain ⟨hx, hb, hml, hr, hlk, hown, hts, hKK, hStr, -⟩ := id X
  refine va_newq (D := E.1) (C := C) hx hb hown (hts _ (qIs_in hw)) (hw' s hStr.2.2) hKK hP hD hS hA hn hN hby h1 h2 hd (fun q cA H1 hK1 hP1 hD1 hS1 => ?_)
  obtain ⟨-, -, -, -, -, e1⟩ := (hK1.2 (qtys E).length (cA, .object C) (by simp)).2
  obtain ⟨-, -, -, -, -, e2⟩ := (hKK.2 t _ (hj E)).2
  have e3 : cA = E.2.2.1 t := Option.some.inj (e1.symm.trans e2)
  subst e3
  exact K q p l e s m args below meth c X hA hAE H1 locs ls hP1 hD1 hS1 hL
/-- a field of the object in making -/
theorem kV.pf {i h a ci : Nat} {fs : List Value} {v : Value} {L : va_W} (f : Nat) (hd : decode (qMT k).2.1 pc = .ok (.putfield i, 3)) (hc : ci < 13) (ho : (qMT k).2.2.2.2.1 = ci) (hf : f < qnf ci) (hl : f < fs.length) (hw : qIs h (.fieldLink (qCN ci) i (qCN ci) (qTF ci f).2.1 (qTF ci f).2.2.1) = true) (hT : (qTF ci f).1 = qCN ci) (hnm : (qMT k).1.name = "<init>" ∨ (qTF ci f).2.2.2 = false) (hn : narrow (qTy ci f) v = v) (hfit : fits (qTy ci f) v = true)
    (K : kV k E A B d mc ms nc ns (pc + 3) lo st ((a, .inr (ci, fs.set f v)) :: L)) : kV k E A B d mc ms nc ns pc lo (v :: .ref a :: st) ((a, .inr (ci, fs)) :: L) := by
  intro p l e s m args below meth c X hA hAE H locs ls hP hD hS hL
  obtain ⟨hx, hb, hml, hr, hlk, hown, hts, hKK, hStr, hbs, hmn⟩ := id X
  rw [ho] at hown
  by_cases hfin : (qTF ci f).2.2.2 = true
  · have hin : meth.name = "<init>" := by
      rcases hnm with h1 | h1
      · exact hmn.trans h1
      · rw [h1] at hfin; cases hfin
    exact va_putF (D := E.1) (ci := ci) (v := v) (ty := qTy ci f) (C := qCN ci) (T := qTF ci) (N := qnf ci) (ref := qCN ci) (own := qCN ci) hx hb hts (qws_in ci hc) (qTy ci) (qty_ok ci hc) (qnm_ok ci hc) hown hKK hP hD hS 0 rfl (qcl_at ci hc) f hf (hts _ (qIs_in hw)) (fun x hx => by rw [hT] at hx; exact hx) hfin hin hT (qty_ok ci hc f hf) hn hfit hl hd (fun H1 locs1 hP1 hD1 hS1 => K p l e s m args below meth c X hA hAE H1 locs1 ls hP1 hD1 hS1 hL)
  · have hfin : (qTF ci f).2.2.2 = false := by simpa using hfin
    exact va_put (D := E.1) (ci := ci) (v := v) (ty := qTy ci f) (C := qCN ci) (T := qTF ci) (N := qnf ci) (ref := qCN ci) (own := qCN ci) hx hb hts (qws_in ci hc) (qTy ci) (qty_ok ci hc) (qnm_ok ci hc) hown hKK hP hD hS 0 rfl (qcl_at ci hc) f hf (hts _ (qIs_in hw)) (fun x hx => by rw [hT] at hx; exact hx) hfin (qty_ok ci hc f hf) hn hfit hl hd (fun H1 locs1 hP1 hD1 hS1 => K p l e s m args below meth c X hA hAE H1 locs1 ls hP1 hD1 hS1 hL)
theorem kV.gf {i h a ci : Nat} {fs : List Value} {L : va_W} (f : Nat) (v : Value) (hd : decode (qMT k).2.1 pc = .ok (.getfield i, 3)) (hc : ci < 13) (ho : (qMT k).2.2.2.2.1 = ci) (hf : f < qnf ci) (hv : fs[f]? = some v) (hw : qIs h (.fieldLink (qCN ci) i (qCN ci) (qTF ci f).2.1 (qTF ci f).2.2.1) = true) (hT : (qTF ci f).1 = qCN ci)
    (K : kV k E A B d mc ms nc ns (pc + 3) lo (v :: st) ((a, .inr (ci, fs)) :: L)) : kV k E A B d mc ms nc ns pc lo (.ref a :: st) ((a, .inr (ci, fs)) :: L) := by
  intro p l e s m args below meth c X hA hAE H locs ls hP hD hS hL
  obtain ⟨hx, hb, hml, hr, hlk, hown, hts, hKK, -⟩ := id X
  rw [ho] at hown
  exact va_get (D := E.1) (ci := ci) (C := qCN ci) (T := qTF ci) (N := qnf ci) (ref := qCN ci) (v := v) (own := qCN ci) hx hb hts (qws_in ci hc) hown hKK hP 0 rfl (qcl_at ci hc) f hf (hts _ (qIs_in hw)) (fun x hx => by rw [hT] at hx; exact hx) hv hd (K p l e s m args below meth c X hA hAE H locs ls hP hD hS hL)
/-- an object's fields at its birth -/
def kdf (c : Nat) : List Value := (List.range (qnf c)).map fun j => defaultValue (qTy c j)
theorem kdf_V {c : Nat} : ∀ j, j < qnf c → defaultValue (qTy c j) = vp_V (kdf c) j := by
  intro j hj
  unfold vp_V kdf
  rw [List.getD_eq_getElem?_getD]
  simp [hj]
theorem kV.nw {i h h' h'' : Nat} (ci : Nat) (hd : decode (qMT k).2.1 pc = .ok (.new i, 3)) (hc : ci < 13) (hw : qIs h (.classLink (qCN (qMT k).2.2.2.2.1) i (qCN ci)) = true) (hw' : qIs h' (.instantiable (qCN ci) (qnf ci)) = true) (hw'' : qIs h'' (.initialized (qCN ci)) = true) (h1 : nc + 1 ≤ mc) (h2 : ns + qnf ci ≤ ms)
    (K : ∀ q, kV k E A B d mc ms (nc + 1) (ns + qnf ci) (pc + 3) lo (.ref q :: st) (ws ++ [(q, .inr (ci, kdf ci))])) : kV k E A B d mc ms nc ns pc lo st ws := by
  intro p l e s m args below meth c X hA hAE H locs ls hP hD hS hL
  obtain ⟨hx, hb, hml, hr, hlk, hown, hts, hKK, -⟩ := id X
  exact va_new (D := E.1) (ci := ci) (C := qCN ci) (T := qTF ci) (N := qnf ci) (fs := kdf ci) hx hb hts (qws_in ci hc) (qTy ci) (qty_ok ci hc) hown (hts _ (qIs_in hw)) (hts _ (qIs_in hw')) (hts _ (qIs_in hw'')) hKK hP hD hS hA (qcl_at ci hc) kdf_V h1 h2 hd (fun q H1 hP1 hD1 hS1 => K q p l e s m args below meth c X hA hAE H1 locs ls hP1 hD1 hS1 hL)
end KN
-- worlds side by side
theorem kP_l {D : va_G} {cl : List vw_C} {w1 w2 : va_W} {H : Heap} (h : va_P D cl (w1 ++ w2) H) : va_P D cl w1 H := fun i q hq => h i q (by rw [List.getElem?_append_left (List.getElem?_eq_some_iff.mp hq).1]; exact hq)
theorem kP_r {D : va_G} {cl : List vw_C} {w1 w2 : va_W} {H : Heap} (h : va_P D cl (w1 ++ w2) H) : va_P D cl w2 H := fun i q hq => h (w1.length + i) q (by rw [List.getElem?_append_right (by omega), Nat.add_sub_cancel_left]; exact hq)
theorem kD_l {A : Nat → Prop} {w1 w2 : va_W} (h : va_D A (w1 ++ w2)) : va_D A w1 := by
  have e : ∀ (i : Nat) (q : Nat × va_E), w1[i]? = some q → (w1 ++ w2)[i]? = some q := fun i q hq => by rw [List.getElem?_append_left (List.getElem?_eq_some_iff.mp hq).1]; exact hq
  exact ⟨fun i j x y hx hy => h.1 i j x y (e i x hx) (e j y hy), fun i q hq => h.2 i q (e i q hq)⟩
theorem kD_r {A : Nat → Prop} {w1 w2 : va_W} (h : va_D A (w1 ++ w2)) : va_D A w2 := by
  have e : ∀ (i : Nat) (q : Nat × va_E), w2[i]? = some q → (w1 ++ w2)[w1.length + i]? = some q := fun i q hq => by rw [List.getElem?_append_right (by omega), Nat.add_sub_cancel_left]; exact hq
  exact ⟨fun i j x y hx hy hxy => by have := h.1 _ _ x y (e i x hx) (e j y hy) hxy; omega, fun i q hq => h.2 _ q (e i q hq)⟩
theorem kD_x {A : Nat → Prop} {w1 w2 : va_W} (h : va_D A (w1 ++ w2)) : ∀ (i j : Nat) (p q : Nat × va_E), w1[i]? = some p → w2[j]? = some q → p.1 ≠ q.1 := by
  intro i j x y hx hy hxy
  have hl := (List.getElem?_eq_some_iff.mp hx).1
  have := h.1 i (w1.length + j) x y (by rw [List.getElem?_append_left hl]; exact hx) (by rw [List.getElem?_append_right (by omega), Nat.add_sub_cancel_left]; exact hy) hxy
  omega
/-- behind a call on the part wc of w1 ++ wc ++ w2 -/
theorem kjoin {A : Nat → Prop} {D : va_G} {cl : List vw_C} {w1 wc w2 w : va_W} {H H1 : Heap} (hP : va_P D cl (w1 ++ (wc ++ w2)) H) (hD : va_D A (w1 ++ (wc ++ w2))) (hk : ∀ q : Nat, q < H.size → ¬ va_A wc H.size q → H1[q]? = H[q]?) (hF : ∀ q, va_A wc H.size q → A q) (hP1 : va_P D cl w H1) (hD1 : va_D (va_A wc H.size) w) : va_P D cl (w1 ++ (w ++ w2)) H1 ∧ va_D A (w1 ++ (w ++ w2)) := by
  have P1 := kP_l hP
  have P2 := kP_r (kP_r hP)
  have D1 := kD_l hD
  have D2 := kD_r (kD_r hD)
  have a1 : ∀ (i : Nat) (q : Nat × va_E), w1[i]? = some q → q.1 < H.size ∧ ¬ va_A wc H.size q.1 := fun i q hq => by
    have hl := (P1 i q hq).lt
    refine ⟨hl, fun h => ?_⟩
    rcases h with ⟨j, e, h⟩ | h
    · exact kD_x hD i j q (q.1, e) hq (by rw [List.getElem?_append_left (List.getElem?_eq_some_iff.mp h).1]; exact h) rfl
    · omega
  have a2 : ∀ (i : Nat) (q : Nat × va_E), w2[i]? = some q → q.1 < H.size ∧ ¬ va_A wc H.size q.1 := fun i q hq => by
    have hl := (P2 i q hq).lt
    refine ⟨hl, fun h => ?_⟩
    rcases h with ⟨j, e, h⟩ | h
    · exact kD_x (kD_r hD) j i (q.1, e) q h hq rfl
    · omega
  refine ⟨(P1.kept fun i q hq => hk _ (a1 i q hq).1 (a1 i q hq).2).app (hP1.app (P2.kept fun i q hq => hk _ (a2 i q hq).1 (a2 i q hq).2)), D1.app ((hD1.weaken fun _ q _ h => hF q.1 h).app D2 fun i j x y hx hy hxy => ?_) fun i j x y hx hy hxy => ?_⟩
  · exact (a2 j y hy).2 (by rw [← hxy]; exact hD1.2 i x hx)
  · by_cases hl : j < w.length
    · rw [List.getElem?_append_left hl] at hy
      exact (a1 i x hx).2 (by rw [hxy]; exact hD1.2 j y hy)
    · rw [List.getElem?_append_right (by omega)] at hy
      exact kD_x hD i (wc.length + (j - w.length)) x y hx (by rw [List.getElem?_append_right (by omega), Nat.add_sub_cancel_left]; exact hy) hxy
