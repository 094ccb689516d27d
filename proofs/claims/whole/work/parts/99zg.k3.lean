/-! constructors: calls, places of arrays -/
theorem kC_blind {E : qE} {sz : Nat} {av : List Value} {w0 : va_W} : FrameBlind (va_Pc av (fun U => U.heap.size = sz ∧ va_P E.1 vwCl w0 U.heap ∧ va_K E.1 vwCl (qtys E) U ∧ va_D (qA E) w0 ∧ kStr E U ∧ E.2.2.2 ≤ sz)) := by
  intro a U g mk ⟨h0, h1, h2, h3, h4, h5, h6⟩
  have al : U.vm.Alike (U.calling g mk a).vm := Vm.Alike.refl U.vm
  exact ⟨h0, h1, h2, va_K.moved (u := U) (U := U.calling g mk a) al h3, h4, ⟨vk_R.same (u := U) (U := U.calling g mk a) rfl h5.1, ⟨vk_S.moved (u := U) (U := U.calling g mk a) al h5.2.1.1, va_Z.moved (u := U) (U := U.calling g mk a) al h5.2.1.2.1, va_Zq.moved (u := U) (U := U.calling g mk a) al h5.2.1.2.2⟩, va_Nw.same rfl (u := U) (U := U.calling g mk a) rfl h5.2.2.1, va_Nw.same rfl (u := U) (U := U.calling g mk a) rfl h5.2.2.2.1, va_Nw.same rfl (u := U) (U := U.calling g mk a) rfl h5.2.2.2.2.1, va_Nw.same rfl (u := U) (U := U.calling g mk a) rfl h5.2.2.2.2.2.1, va_AO.moved (u := U) (U := U.calling g mk a) al h5.2.2.2.2.2.2.1, va_AO.moved (u := U) (U := U.calling g mk a) al h5.2.2.2.2.2.2.2⟩, h6⟩
theorem kcb {k' d d' mc mc' ms ms' i h : Nat} {own : String} {s : State} {args : Array Value} (hk : kmk k' = true) (hts : ∀ w ∈ qAL, w.before args s = true) (h1 : d' < d) (hw : qIs h (.methodLink own i (qMT k').1) = true) : CallB (kRm d mc ms) s args own i (qMT k').1 (qMT k').2.1 (qMT k').2.2.1 (qMT k').2.2.2.1 (qAW (qMT k')) (kRm d' mc' ms') mc' ms' (qMT k').2.2.2.2.2.2.1 := by
  obtain ⟨⟨⟨⟨⟨⟨⟨m1, m2⟩, m3⟩, m4⟩, m5⟩, m6⟩, m7⟩, m8⟩ := kmk_s hk
  refine ⟨rfl, rfl, ?_, ?_, fun w hw a' U hW => word_at hW (qAL_good (kAW_in hk w hw)) (hts w (kAW_in hk w hw)), List.mem_cons_self, hts _ (qIs_in m1), hts _ (qIs_in m2), m4, fun sig hs => ?_, hts _ (qIs_in hw)⟩
  · show d' + 1 ≤ d
    omega
  · show 8 + (_ + 11) + 64 * d' ≤ 64 * d
    omega
  · rw [hs] at m7
    exact (Option.some.inj m7).symm
section KC
variable {k : Nat} {E : qE} {A : Nat → Prop} {B : va_W → Prop} {d mc ms nc ns pc : Nat} {lo : List (Nat × Value)} {st : List Value} {ws : va_W}
/-- a constructor is called on the newest cell -/
theorem kV.ct {k' d' mc' ms' i h q : Nat} {e : va_E} {As rest st0 : List Value} {L : va_W} {B' : va_W → Prop} (hM : kC d' k' mc' ms' E (.ref q :: As) [(q, e)] B') (hk : kmk k' = true) (hd : decode (qMT k).2.1 pc = .ok (.invokespecial i, 3)) (hst : st0 = As.reverse ++ .ref q :: rest) (hw : qIs h (.methodLink (qCN (qMT k).2.2.2.2.1) i (qMT k').1) = true) (hnm : (qMT k').1.name = "<init>") (hr : (qMT k').2.2.2.1 = none) (hn : As.length = (qMT k').2.2.2.2.2.2.1) (h1 : d' < d) (h2 : nc + mc' ≤ mc) (h3 : ns + ms' ≤ ms) (hs : (rest.map fun v => v.category).sum ≤ 8)
    (K : ∀ w, B' w → kV k E A B d mc ms (nc + mc') (ns + ms') (pc + 3) lo rest (L ++ w)) : kV k E A B d mc ms nc ns pc lo st0 (L ++ [(q, e)]) := by
  intro p l ee s m args below meth c X hA hAE H locs ls hP hD hS hL
  obtain ⟨hx, hb, hml, hret, hlk, hown, hts, hKK, hStr, hbs, -⟩ := id X
  have cb := kcb (mc := mc) (ms := ms) (mc' := mc') (ms' := ms') hk hts h1 hw
  rw [hr] at cb
  have hPc := kP_r hP
  have hDc := kD_r hD
  have hP0 : va_P E.1 vwCl (L ++ ([(q, e)] ++ [])) H := by rw [List.append_nil]; exact hP
  have hD0 : va_D A (L ++ ([(q, e)] ++ [])) := by rw [List.append_nil]; exact hD
  have hF : ∀ q', va_A [(q, e)] H.size q' → A q' := by
    intro q' h
    rcases h with ⟨j, e', h⟩ | h
    · exact hDc.2 j (q', e') h
    · exact hA _ (Nat.le_trans hS.1 h)
  refine va_callv (va_runI (As := As) (rest := rest) ⟨hx, hb, hml, hown, hts⟩ (hM l H.size) ⟨cb, hnm, hts _ (qIs_in (kmk_s hk).2)⟩ ⟨kC_blind, fun U hU hW => ⟨rfl, by rw [hU], by rw [hU]; exact hPc, hKK.moved hW.alike, hDc.weaken (fun _ _ _ h => hAE _ h), kStr_of hStr hS hAE hU hW, Nat.le_trans hbs hS.1⟩⟩ rfl hn hL.1 hst (by show 2 * 0 + _ ≤ 8; omega) hd ⟨h2, h3⟩) hS (fun q' _ h => hF q' h) hF (fun u t H1 locs1 ht hvm hp hB hz hk1 hS1 => ?_)
  obtain ⟨w, hBw, hP1, hD1⟩ := hB
  rw [ht] at hP1
  have J := kjoin hP0 hD0 hk1 hF hP1 hD1
  rw [List.append_nil] at J
  exact K w hBw p l ee s m args below meth c X hA hAE H1 locs1 ls J.1 J.2 hS1 hL
theorem kV.cn {k' d' mc' ms' i q : Nat} {e : va_E} {As rest st0 : List Value} {L : va_W} {B' : va_W → Prop} (hM : kC d' k' mc' ms' E (.ref q :: As) [(q, e)] B') (hk : kmk k' = true) (hd : decode (qMT k).2.1 pc = .ok (.invokespecial i, 3)) (hst : st0 = As.reverse ++ .ref q :: rest) (hw : ∀ U, kNw U → va_Nw (.methodLinkNest (qCN (qMT k).2.2.2.2.1) i (qMT k').1 RX11) U) (hnm : (qMT k').1.name = "<init>") (hr : (qMT k').2.2.2.1 = none) (hn : As.length = (qMT k').2.2.2.2.2.2.1) (h1 : d' < d) (h2 : nc + mc' ≤ mc) (h3 : ns + ms' ≤ ms) (hs : (rest.map fun v => v.category).sum ≤ 8)
    (K : ∀ w, B' w → kV k E A B d mc ms (nc + mc') (ns + ms') (pc + 3) lo rest (L ++ w)) : kV k E A B d mc ms nc ns pc lo st0 (L ++ [(q, e)]) := by
  intro p l ee s m args below meth c X hA hAE H locs ls hP hD hS hL
  obtain ⟨hx, hb, hml, hret, hlk, hown, hts, hKK, hStr, hbs, -⟩ := id X
  obtain ⟨⟨⟨⟨⟨⟨⟨m1, m2⟩, m3⟩, m4⟩, m5⟩, m6⟩, m7⟩, m8⟩ := kmk_s hk
  have cb : va_CN (kRm d mc ms) s args (qCN (qMT k).2.2.2.2.1) i (qMT k').1 RX11 (qMT k').2.1 (qMT k').2.2.1 (qMT k').2.2.2.1 (qAW (qMT k')) (kRm d' mc' ms') mc' ms' (qMT k').2.2.2.2.2.2.1 := by
    refine ⟨⟨rfl, rfl, ?_, ?_, fun w hw a' U hW => word_at hW (qAL_good (kAW_in hk w hw)) (hts w (kAW_in hk w hw)), List.mem_cons_self⟩, hts _ (qIs_in m1), hts _ (qIs_in m2), m4, fun sig hs => ?_, va_Nw.use rfl (hw s hStr.2.2)⟩
    · show d' + 1 ≤ d
      omega
    · show 8 + (_ + 11) + 64 * d' ≤ 64 * d
      omega
    · rw [hs] at m7
      exact (Option.some.inj m7).symm
  rw [hr] at cb
  have hPc := kP_r hP
  have hDc := kD_r hD
  have hP0 : va_P E.1 vwCl (L ++ ([(q, e)] ++ [])) H := by rw [List.append_nil]; exact hP
  have hD0 : va_D A (L ++ ([(q, e)] ++ [])) := by rw [List.append_nil]; exact hD
  have hF : ∀ q', va_A [(q, e)] H.size q' → A q' := by
    intro q' h
    rcases h with ⟨j, e', h⟩ | h
    · exact hDc.2 j (q', e') h
    · exact hA _ (Nat.le_trans hS.1 h)
  refine va_callv (va_runIN (As := As) (rest := rest) ⟨hx, hb, hml, hown, hts⟩ (hM l H.size) ⟨cb, hnm, hts _ (qIs_in m8)⟩ ⟨kC_blind, fun U hU hW => ⟨rfl, by rw [hU], by rw [hU]; exact hPc, hKK.moved hW.alike, hDc.weaken (fun _ _ _ h => hAE _ h), kStr_of hStr hS hAE hU hW, Nat.le_trans hbs hS.1⟩⟩ rfl hn hL.1 hst (by show 2 * 0 + _ ≤ 8; omega) hd ⟨h2, h3⟩) hS (fun q' _ h => hF q' h) hF (fun u t H1 locs1 ht hvm hp hB hz hk1 hS1 => ?_)
  obtain ⟨w, hBw, hP1, hD1⟩ := hB
  rw [ht] at hP1
  have J := kjoin hP0 hD0 hk1 hF hP1 hD1
  rw [List.append_nil] at J
  exact K w hBw p l ee s m args below meth c X hA hAE H1 locs1 ls J.1 J.2 hS1 hL
/-- a method without an answer is called on the first cells -/
theorem kV.cv {k' d' mc' ms' i h h' a ci : Nat} {fs : List Value} {As rest st0 : List Value} {w0 L : va_W} {B' : va_W → Prop} (hM : kC d' k' mc' ms' E (.ref a :: As) ((a, .inr (ci, fs)) :: w0) B') (hk : kmk k' = true) (hd : decode (qMT k).2.1 pc = .ok (.invokevirtual i, 3)) (hst : st0 = As.reverse ++ .ref a :: rest) (hc : ci < 13) (ho : (qMT k').1.cls = qCN ci) (hw : qIs h (.methodLink (qCN (qMT k).2.2.2.2.1) i (qMT k').1) = true) (hw' : qIs h' (.selects (qMT k').1.cls (qMT k').1 (qMT k').1) = true) (hn : As.length = (qMT k').2.2.2.2.2.2.1) (h1 : d' < d) (h2 : nc + mc' ≤ mc) (h3 : ns + ms' ≤ ms) (hs : (rest.map fun v => v.category).sum ≤ 8)
    (K : ∀ w, B' w → kV k E A B d mc ms (nc + mc') (ns + ms') (pc + 3) lo rest (w ++ L)) : kV k E A B d mc ms nc ns pc lo st0 ((a, .inr (ci, fs)) :: w0 ++ L) := by
  intro p l ee s m args below meth c X hA hAE H locs ls hP hD hS hL
  obtain ⟨hx, hb, hml, hret, hlk, hown, hts, hKK, hStr, hbs, -⟩ := id X
  have cb := kcb (mc := mc) (ms := ms) (mc' := mc') (ms' := ms') hk hts h1 hw
  have hPc := kP_l hP
  have hDc := kD_l hD
  have hF : ∀ q', va_A ((a, .inr (ci, fs)) :: w0) H.size q' → A q' := by
    intro q' h
    rcases h with ⟨j, e', h⟩ | h
    · exact hDc.2 j (q', e') h
    · exact hA _ (Nat.le_trans hS.1 h)
  refine va_callv (va_runV (C := (qMT k').1.cls) (b := a) (As := As) (rest := rest) ⟨hx, hb, hml, hown, hts⟩ (hM l H.size) ⟨cb, hts _ (qIs_in (kmk_s hk).2), hts _ (qIs_in hw')⟩ ⟨kC_blind, by rw [ho]; exact va_recv hKK hPc (qcl_at ci hc) (q0 := 0) rfl, fun U hU hW => ⟨rfl, by rw [hU], by rw [hU]; exact hPc, hKK.moved hW.alike, hDc.weaken (fun _ _ _ h => hAE _ h), kStr_of hStr hS hAE hU hW, Nat.le_trans hbs hS.1⟩⟩ rfl hn hL.1 hst (by show 2 * 0 + _ ≤ 8; omega) hd ⟨h2, h3⟩) hS (fun q' _ h => hF q' h) hF (fun u t H1 locs1 ht hvm hp hB hz hk1 hS1 => ?_)
  obtain ⟨w, hBw, hP1, hD1⟩ := hB
  rw [ht] at hP1
  have J := kjoin (w1 := []) (wc := (a, .inr (ci, fs)) :: w0) (w2 := L) hP hD hk1 hF hP1 hD1
  exact K w hBw p l ee s m args below meth c X hA hAE H1 locs1 ls J.1 J.2 hS1 hL
theorem kV.ia {a n : Nat} {f : Nat → Int32} {i x : Int32} (q0 : Nat) (hd : decode (qMT k).2.1 pc = .ok (.iastore, 1)) (ha : ws[q0]? = some (a, .inl (E.2.2.1 0, n, .inl f))) (hin : qin i n) (K : kV k E A B d mc ms nc ns (pc + 1) lo st (ws.set q0 (a, .inl (E.2.2.1 0, n, .inl (upd f i.toNatClampNeg x))))) : kV k E A B d mc ms nc ns pc lo (.int x :: .int i :: .ref a :: st) ws := by
  intro p l e s m args below meth c X hA hAE H locs ls hP hD hS hL
  obtain ⟨hx, hb, hml, hr, hlk, hown, hts, hKK, -⟩ := id X
  exact va_iast (D := E.1) hx hb hKK hP hD hS q0 0 ha rfl (qin_vp hin) hd (fun H1 locs1 hP1 hD1 hS1 => K p l e s m args below meth c X hA hAE H1 locs1 ls hP1 hD1 hS1 hL)
theorem kV.ls {a n : Nat} {f : Nat → Int64} {i : Int32} {x : Int64} (q0 : Nat) (hd : decode (qMT k).2.1 pc = .ok (.lastore, 1)) (ha : ws[q0]? = some (a, .inl (E.2.2.1 1, n, .inr (.inl f)))) (hin : qin i n) (K : kV k E A B d mc ms nc ns (pc + 1) lo st (ws.set q0 (a, .inl (E.2.2.1 1, n, .inr (.inl (vp_updL f i.toNatClampNeg x)))))) : kV k E A B d mc ms nc ns pc lo (.long x :: .int i :: .ref a :: st) ws := by
  intro p l e s m args below meth c X hA hAE H locs ls hP hD hS hL
  obtain ⟨hx, hb, hml, hr, hlk, hown, hts, hKK, -⟩ := id X
  exact va_last (D := E.1) hx hb hKK hP hD hS q0 1 ha rfl (qin_vp hin) hd (fun H1 locs1 hP1 hD1 hS1 => K p l e s m args below meth c X hA hAE H1 locs1 ls hP1 hD1 hS1 hL)
theorem kV.ll {a n : Nat} {f : Nat → Int64} {i : Int32} (q0 : Nat) (hd : decode (qMT k).2.1 pc = .ok (.laload, 1)) (ha : ws[q0]? = some (a, .inl (E.2.2.1 1, n, .inr (.inl f)))) (hin : qin i n) (K : kV k E A B d mc ms nc ns (pc + 1) lo (.long (f i.toNatClampNeg) :: st) ws) : kV k E A B d mc ms nc ns pc lo (.int i :: .ref a :: st) ws := by
  intro p l e s m args below meth c X hA hAE H locs ls hP hD hS hL
  obtain ⟨hx, hb, hml, hr, hlk, hown, hts, hKK, -⟩ := id X
  exact va_lald (D := E.1) hx hb hKK hP q0 1 ha rfl (qin_vp hin) hd (K p l e s m args below meth c X hA hAE H locs ls hP hD hS hL)
/-- a reference comes into a place of an array; both cells by what lies before them -/
theorem kV.aq {a n v ci t : Nat} {vs : List Value} {f : Nat → Option Nat} {i : Int32} {r : vw_C} (q0 qk : Nat) (hd : decode (qMT k).2.1 pc = .ok (.aastore, 1)) (ha : ws[q0]? = some (a, .inl (E.2.2.1 t, n, .inr (.inr (.inr (.inr f)))))) (ht : ∀ E : qE, (qtys E)[t]? = some (E.2.2.1 t, .object r.1)) (hv : ws[qk]? = some (v, .inr (ci, vs))) (hc : vwCl[ci]? = some r) (hin : qin i n) (K : kV k E A B d mc ms nc ns (pc + 1) lo st (ws.set q0 (a, .inl (E.2.2.1 t, n, .inr (.inr (.inr (.inr (va_up f i.toNatClampNeg (some v)))))))) ) : kV k E A B d mc ms nc ns pc lo (.ref v :: .int i :: .ref a :: st) ws := by
  intro p l e s m args below meth c X hA hAE H locs ls hP hD hS hL
  obtain ⟨hx, hb, hml, hr, hlk, hown, hts, hKK, -⟩ := id X
  exact va_astq (D := E.1) hx hb hKK hP hD hS q0 t qk ci ha (ht E) hv hc (qin_vp hin) hd (fun H1 locs1 hP1 hD1 hS1 => K p l e s m args below meth c X hA hAE H1 locs1 ls hP1 hD1 hS1 hL)
/-- the class's text constant -/
theorem kV.ld (hd : decode (qMT k).2.1 pc = .ok (.ldc 57, 2)) (ho : (qMT k).2.2.2.2.1 = 7) (K : kV k E A B d mc ms nc ns (pc + 2) lo (.ref (E.2.1 1002) :: st) ws) : kV k E A B d mc ms nc ns pc lo st ws := by
  intro p l e s m args below meth c X hA hAE H locs ls hP hD hS hL
  obtain ⟨hx, hb, hml, hr, hlk, hown, hts, hKK, hStr, -⟩ := id X
  rw [ho] at hown
  exact va_ldcS (own := RX7) (tx := kRES) (q := E.2.1 1002) hx hb hown hStr.1 hd (K p l e s m args below meth c X hA hAE H locs ls hP hD hS hL)
theorem kV.len {i h : Nat} (hd : decode (qMT k).2.1 pc = .ok (.invokevirtual i, 3)) (hw : qIs h (.methodLink (qCN (qMT k).2.2.2.2.1) i yJ0_length_8abf5) = true) (h1 : 4 < d) (h2 : nc ≤ mc) (h3 : ns ≤ ms) (hs : (st.map fun v => v.category).sum ≤ 8) (K : kV k E A B d mc ms nc ns (pc + 3) lo (.int (nI kRESb.length) :: st) ws) : kV k E A B d mc ms nc ns pc lo (.ref (E.2.1 1002) :: st) ws := by
  intro p l e s m args below meth c X hA hAE H locs ls hP hD hS hL
  obtain ⟨hx, hb, hml, hr, hlk, hown, hts, hKK, hStr, hbs, -⟩ := id X
  have kp : ∀ q : Nat, q < s.heap.size → ¬ qA E q → H[q]? = s.heap[q]? := fun q g1 g2 => hS.2.1 q g1 (fun h => g2 (hAE q h))
  have recv : ∃ cellB : Cell, H[E.2.1 1002]? = some cellB ∧ cellB.vm.isStatics = false ∧ s.vm.findClass RK90 = some cellB.cls := by
    obtain ⟨cell, g1, g2, g3, g4⟩ := (hStr.2.1.1.1 0 (by decide)).1
    exact ⟨cell, by rw [kp _ (Array.getElem?_eq_some_iff.mp g1).1 g4]; exact g1, g2, g3⟩
  refine va_calli (va_runV (C := RK90) (b := E.2.1 1002) (As := []) (rest := st) ⟨hx, hb, hml, hown, hts⟩ (c_length l (a := E.2.1 1002) (v := E.2.1 1003) (byt := kRESb) (A := qA E) (by decide +kernel)) ⟨s_cb (rm := qRm 4) hts (h1 := h) (h2 := 265) (h3 := 514) hw (by decide +kernel) (by decide +kernel) (by decide) (by decide +kernel) ⟨by show 4 + 1 ≤ d; omega, by show 8 + (1 + 11) + 64 * 4 ≤ 64 * d; omega⟩ rfl rfl, hts _ (qIs_in (h := 512) (w := .instanceMethod yJ0_length_8abf5) (by decide +kernel)), hts _ (qIs_in (h := 513) (w := .selects RK90 yJ0_length_8abf5 yJ0_length_8abf5) (by decide +kernel))⟩ ⟨sW_blind, recv, fun U hU hW => ⟨rfl, (kStr_of hStr hS hAE hU hW).2.1⟩⟩ rfl rfl hL.1 rfl (by show 2 * 0 + _ ≤ 8; omega) hd ⟨h2, h3⟩) hS (fun _ _ h9 => False.elim h9) (fun _ h9 => False.elim h9) (fun r _ t H1 locs1 ht hvm hp hB hz hk1 hS1 => ?_)
  subst hp
  have hP1 : va_P E.1 vwCl ws H1 := hP.kept fun j x hx => hk1 _ ((hP j x hx).lt) (fun h9 => h9)
  exact K p l e s m args below meth c X hA hAE H1 locs1 ls hP1 hD hS1 hL
theorem kV.chr {i h j : Nat} (hj : j < kRESb.length) (hd : decode (qMT k).2.1 pc = .ok (.invokevirtual i, 3)) (hw : qIs h (.methodLink (qCN (qMT k).2.2.2.2.1) i yJ0_charAt_5068e) = true) (h1 : 4 < d) (h2 : nc ≤ mc) (h3 : ns ≤ ms) (hs : (st.map fun v => v.category).sum ≤ 8) (K : kV k E A B d mc ms nc ns (pc + 3) lo (.int (kRESb.getD j 0 &&& 255) :: st) ws) : kV k E A B d mc ms nc ns pc lo (.int (nI j) :: .ref (E.2.1 1002) :: st) ws := by
  intro p l e s m args below meth c X hA hAE H locs ls hP hD hS hL
  obtain ⟨hx, hb, hml, hr, hlk, hown, hts, hKK, hStr, hbs, -⟩ := id X
  have kp : ∀ q : Nat, q < s.heap.size → ¬ qA E q → H[q]? = s.heap[q]? := fun q g1 g2 => hS.2.1 q g1 (fun h => g2 (hAE q h))
  have recv : ∃ cellB : Cell, H[E.2.1 1002]? = some cellB ∧ cellB.vm.isStatics = false ∧ s.vm.findClass RK90 = some cellB.cls := by
    obtain ⟨cell, g1, g2, g3, g4⟩ := (hStr.2.1.1.1 0 (by decide)).1
    exact ⟨cell, by rw [kp _ (Array.getElem?_eq_some_iff.mp g1).1 g4]; exact g1, g2, g3⟩
  refine va_calli (va_runV (C := RK90) (b := E.2.1 1002) (As := [.int (nI j)]) (rest := st) ⟨hx, hb, hml, hown, hts⟩ (c_charAt l (a := E.2.1 1002) (v := E.2.1 1003) (byt := kRESb) (A := qA E) hj (by decide +kernel)) ⟨s_cb (rm := qRm 4) (n := 1) hts (h1 := h) (h2 := 265) (h3 := 524) hw (by decide +kernel) (by decide +kernel) (by decide) (by decide +kernel) ⟨by show 4 + 1 ≤ d; omega, by show 8 + (2 + 11) + 64 * 4 ≤ 64 * d; omega⟩ rfl rfl, hts _ (qIs_in (h := 522) (w := .instanceMethod yJ0_charAt_5068e) (by decide +kernel)), hts _ (qIs_in (h := 523) (w := .selects RK90 yJ0_charAt_5068e yJ0_charAt_5068e) (by decide +kernel))⟩ ⟨sW_blind, recv, fun U hU hW => ⟨rfl, (kStr_of hStr hS hAE hU hW).2.1⟩⟩ rfl rfl hL.1 rfl (by show 2 * 0 + _ ≤ 8; omega) hd ⟨h2, h3⟩) hS (fun _ _ h9 => False.elim h9) (fun _ h9 => False.elim h9) (fun r _ t H1 locs1 ht hvm hp hB hz hk1 hS1 => ?_)
  subst hp
  have hP1 : va_P E.1 vwCl ws H1 := hP.kept fun j x hx => hk1 _ ((hP j x hx).lt) (fun h9 => h9)
  exact K p l e s m args below meth c X hA hAE H1 locs1 ls hP1 hD hS1 hL
end KC
