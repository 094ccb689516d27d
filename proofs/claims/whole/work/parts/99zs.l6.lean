/-! the law: calls, makings -/
section GC
variable {E : qE} {b L : Nat} {xs : Nat → Int32} {nc ns pc : Nat} {lo : List (Nat × Value)} {st : List Value} {ws : va_W}
theorem g_cb {k d n h mc ms : Nat} {args : Array Value} {s : State} (hg : qgood k) (hts : ∀ w ∈ qAL, w.before args s = true) (c3 : (qMT k).2.2.2.2.2.2.2.1 = false) (hw : qIs h (.methodLink R_law n (qMT k).1) = true) (hd : d < 1000) : CallB room_1 s args R_law n (qMT k).1 (qMT k).2.1 (qMT k).2.2.1 (qMT k).2.2.2.1 (qAW (qMT k)) (qRm d) 0 0 (qMT k).2.2.2.2.2.2.1 ∧ (Cond.instanceMethod (qMT k).1).before args s = true ∧ (Cond.selects (qMT k).1.cls (qMT k).1 (qMT k).1).before args s = true := by
  obtain ⟨hmk, hcw, -⟩ := id hg
  simp only [qmk, Bool.and_eq_true, decide_eq_true_eq] at hmk
  obtain ⟨⟨⟨⟨⟨⟨m2, m3⟩, m4⟩, m5⟩, m6⟩, m7⟩, m8⟩ := hmk
  rw [c3] at m8
  simp only [Bool.false_eq_true, if_false, Bool.and_eq_true] at m8
  refine ⟨⟨rfl, rfl, ?_, ?_, fun w hw a' U hW => word_at hW (qAL_good (qAW_in hg w hw)) (hts w (qAW_in hg w hw)), List.mem_cons_self, hts _ (qAW_in hg _ List.mem_cons_self), hts _ (qIs_in m2), m4, fun sig hs => ?_, hts _ (qIs_in hw)⟩, hts _ (qIs_in m8.1), hts _ (qIs_in m8.2)⟩
  · show d + 1 ≤ 2048
    omega
  · show 8 + (_ + 11) + 64 * d ≤ 84000
    omega
  · rw [hs] at m7
    exact (Option.some.inj m7).symm
theorem g_rv {k a0 : Nat} {σ : qSg} {s : State} {H : Heap} (hg : qgood k) (hKK : va_K E.1 vwCl (qtys E) s) (hP : va_P E.1 vwCl (qws E σ) H) (h10 : (qKd a0).1 = 10 + (qMT k).2.2.2.2.1) : ∃ cellB : Cell, H[E.2.1 a0]? = some cellB ∧ cellB.vm.isStatics = false ∧ s.vm.findClass (qMT k).1.cls = some cellB.cls := by
  obtain ⟨hmk, -, -⟩ := id hg
  simp only [qmk, Bool.and_eq_true, decide_eq_true_eq] at hmk
  obtain ⟨⟨⟨⟨⟨⟨-, m3⟩, -⟩, -⟩, -⟩, -⟩, -⟩ := hmk
  rw [m3]
  have hlt := qKd_lt (a := a0) (Or.inl (by omega))
  have hc13 : (qMT k).2.2.2.2.1 < 13 := by
    have := qobj_c a0 hlt
    omega
  exact va_recv hKK hP (qcl_at _ hc13) ((qws_at E σ hlt).trans (by rw [qent_obj E σ h10]))
theorem gW.cI {k d n h a0 : Nat} {as : List qPV} {σ : qSg} {P : Int32 → qSg → Prop} {rest st0 : List Value} (hM : qCI d k (qr a0 :: as) σ P) (hdd : decode code pc = .ok (.invokevirtual n, 3)) (hst : st0 = (as.map (qTV E.2.1)).reverse ++ .ref (E.2.1 a0) :: rest) (hw : qIs h (.methodLink R_law n (qMT k).1) = true) (c3 : (qMT k).2.2.2.2.2.2.2.1 = false) (hn : as.length = (qMT k).2.2.2.2.2.2.1) (hrc : (qKd a0).1 = 10 + (qMT k).2.2.2.2.1) (hd : d < 1000) (hs : (rest.map fun v => v.category).sum ≤ 8) (h1 : nc ≤ 600000) (h2 : ns ≤ 7302250)
    (K : ∀ r σ', P r σ' → gW E b L xs nc ns (pc + 3) lo (.int r :: rest) (qws E σ')) : gW E b L xs nc ns pc lo st0 (qws E σ) := by
  intro p l e s m below meth c X H locs ls hP hD hS hL
  obtain ⟨⟨hx, hb, hret, hml, hown, hts, -⟩, hKK, hStr, hqS, hbs⟩ := id X
  have cb := g_cb (mc := 0) (ms := 0) hM.1 (gq hts) c3 hw hd
  refine va_calli (va_runV (C := (qMT k).1.cls) (b := E.2.1 a0) (As := as.map (qTV E.2.1)) (rest := rest) ⟨hx, hb, hml, hown, hts⟩ (hM.2 l E) ⟨cb.1, cb.2.1, cb.2.2⟩ ⟨qWU_blind, g_rv hM.1 hKK hP hrc, fun U hU hW => ⟨rfl, qWU_of hKK hqS (Nat.le_of_eq hbs) hP hD hS hU hW⟩⟩ rfl (by rw [List.length_map]; exact hn) hL.1 hst (by show 2 * 0 + _ ≤ 8; omega) hdd ⟨h1, h2⟩) hS (fun _ _ h9 => h9) (fun _ h9 => h9) (fun r σ1 t H1 locs1 ht hvm hp hB hz hk hS1 => ?_)
  obtain ⟨hP1, -, hD1, -, -⟩ := hB
  rw [ht] at hP1
  exact K r σ1 hp p l e s m below meth c X H1 locs1 ls hP1 hD1 hS1 hL
theorem gW.cL {k d n h a0 : Nat} {as : List qPV} {σ : qSg} {P : Int64 → qSg → Prop} {rest st0 : List Value} (hM : qCL d k (qr a0 :: as) σ P) (hdd : decode code pc = .ok (.invokevirtual n, 3)) (hst : st0 = (as.map (qTV E.2.1)).reverse ++ .ref (E.2.1 a0) :: rest) (hw : qIs h (.methodLink R_law n (qMT k).1) = true) (c3 : (qMT k).2.2.2.2.2.2.2.1 = false) (hn : as.length = (qMT k).2.2.2.2.2.2.1) (hrc : (qKd a0).1 = 10 + (qMT k).2.2.2.2.1) (hd : d < 1000) (hs : (rest.map fun v => v.category).sum ≤ 8) (h1 : nc ≤ 600000) (h2 : ns ≤ 7302250)
    (K : ∀ r σ', P r σ' → gW E b L xs nc ns (pc + 3) lo (.long r :: rest) (qws E σ')) : gW E b L xs nc ns pc lo st0 (qws E σ) := by
  intro p l e s m below meth c X H locs ls hP hD hS hL
  obtain ⟨⟨hx, hb, hret, hml, hown, hts, -⟩, hKK, hStr, hqS, hbs⟩ := id X
  have cb := g_cb (mc := 0) (ms := 0) hM.1 (gq hts) c3 hw hd
  refine va_calll (va_runV (C := (qMT k).1.cls) (b := E.2.1 a0) (As := as.map (qTV E.2.1)) (rest := rest) ⟨hx, hb, hml, hown, hts⟩ (hM.2 l E) ⟨cb.1, cb.2.1, cb.2.2⟩ ⟨qWU_blind, g_rv hM.1 hKK hP hrc, fun U hU hW => ⟨rfl, qWU_of hKK hqS (Nat.le_of_eq hbs) hP hD hS hU hW⟩⟩ rfl (by rw [List.length_map]; exact hn) hL.1 hst (by show 2 * 0 + _ ≤ 8; omega) hdd ⟨h1, h2⟩) hS (fun _ _ h9 => h9) (fun _ h9 => h9) (fun r σ1 t H1 locs1 ht hvm hp hB hz hk hS1 => ?_)
  obtain ⟨hP1, -, hD1, -, -⟩ := hB
  rw [ht] at hP1
  exact K r σ1 hp p l e s m below meth c X H1 locs1 ls hP1 hD1 hS1 hL
theorem gW.nw {i h h' h'' : Nat} (ci : Nat) (hd : decode code pc = .ok (.new i, 3)) (hc : ci < 13) (hw : qIs h (.classLink R_law i (qCN ci)) = true) (hw' : qIs h' (.instantiable (qCN ci) (qnf ci)) = true) (hw'' : qIs h'' (.initialized (qCN ci)) = true) (h1 : nc + 1 ≤ 600000) (h2 : ns + qnf ci ≤ 7302250)
    (K : ∀ q, gW E b L xs (nc + 1) (ns + qnf ci) (pc + 3) lo (.ref q :: st) (ws ++ [(q, .inr (ci, kdf ci))])) : gW E b L xs nc ns pc lo st ws := by
  intro p l e s m below meth c X H locs ls hP hD hS hL
  obtain ⟨⟨hx, hb, hret, hml, hown, hts, -⟩, hKK, hStr, hqS, hbs⟩ := id X
  exact va_new (D := E.1) (ci := ci) (C := qCN ci) (T := qTF ci) (N := qnf ci) (fs := kdf ci) hx hb (gq hts) (qws_in ci hc) (qTy ci) (qty_ok ci hc) hown (gq hts _ (qIs_in hw)) (gq hts _ (qIs_in hw')) (gq hts _ (qIs_in hw'')) hKK hP hD hS (fun q hq => by show E.2.2.2 ≤ q; omega) (qcl_at ci hc) kdf_V h1 h2 hd (fun q H1 hP1 hD1 hS1 => K q p l e s m below meth c X H1 locs ls hP1 hD1 hS1 hL)
theorem gW.ct {k' d' mc' ms' i h q : Nat} {e : va_E} {rest : List Value} {B' : va_W → Prop} (hM : kC d' k' mc' ms' E [.ref q] [(q, e)] B') (hk : kmk k' = true) (hd : decode code pc = .ok (.invokespecial i, 3)) (hw : qIs h (.methodLink R_law i (qMT k').1) = true) (hnm : (qMT k').1.name = "<init>") (hr : (qMT k').2.2.2.1 = none) (hn : 0 = (qMT k').2.2.2.2.2.2.1) (h1 : d' < 1000) (h2 : nc + mc' ≤ 600000) (h3 : ns + ms' ≤ 7302250) (hs : (rest.map fun v => v.category).sum ≤ 8)
    (K : ∀ w, B' w → gW E b L xs (nc + mc') (ns + ms') (pc + 3) lo rest (ws ++ w)) : gW E b L xs nc ns pc lo (.ref q :: rest) (ws ++ [(q, e)]) := by
  intro p l ee s m below meth c X H locs ls hP hD hS hL
  obtain ⟨⟨hx, hb, hret, hml, hown, hts, -⟩, hKK, hStr, hqS, hbs⟩ := id X
  obtain ⟨⟨⟨⟨⟨⟨⟨m1, m2⟩, m3⟩, m4⟩, m5⟩, m6⟩, m7⟩, m8⟩ := kmk_s hk
  have hq := gq hts
  have cb : CallB room_1 s #[Value.ref b] R_law i (qMT k').1 (qMT k').2.1 (qMT k').2.2.1 (qMT k').2.2.2.1 (qAW (qMT k')) (kRm d' mc' ms') mc' ms' (qMT k').2.2.2.2.2.2.1 := by
    refine ⟨rfl, rfl, ?_, ?_, fun w hw a' U hW => word_at hW (qAL_good (kAW_in hk w hw)) (hq w (kAW_in hk w hw)), List.mem_cons_self, hq _ (qIs_in m1), hq _ (qIs_in m2), m4, fun sig hs => ?_, hq _ (qIs_in hw)⟩
    · show d' + 1 ≤ 2048
      omega
    · show 8 + (_ + 11) + 64 * d' ≤ 84000
      omega
    · rw [hs] at m7
      exact (Option.some.inj m7).symm
  rw [hr] at cb
  have hPc := kP_r hP
  have hDc := kD_r hD
  have hP0 : va_P E.1 vwCl (ws ++ ([(q, e)] ++ [])) H := by rw [List.append_nil]; exact hP
  have hD0 : va_D (qA E) (ws ++ ([(q, e)] ++ [])) := by rw [List.append_nil]; exact hD
  have hF : ∀ q', va_A [(q, e)] H.size q' → qA E q' := by
    intro q' h
    rcases h with ⟨j, e', h⟩ | h
    · exact hDc.2 j (q', e') h
    · have := hS.1
      show E.2.2.2 ≤ q'
      omega
  refine va_callv (va_runI (As := []) (rest := rest) ⟨hx, hb, hml, hown, hts⟩ (hM l H.size) ⟨cb, hnm, hq _ (qIs_in m8)⟩ ⟨kC_blind, fun U hU hW => ⟨rfl, by rw [hU], by rw [hU]; exact hPc, hKK.moved hW.alike, hDc, kStr_of hStr hS (fun _ h => h) hU hW, by have := hS.1; omega⟩⟩ rfl hn hL.1 rfl (by show 2 * 0 + _ ≤ 8; omega) hd ⟨h2, h3⟩) hS (fun q' _ h => hF q' h) hF (fun u t H1 locs1 ht hvm hp hB hz hk1 hS1 => ?_)
  obtain ⟨w, hBw, hP1, hD1⟩ := hB
  rw [ht] at hP1
  have J := kjoin hP0 hD0 hk1 hF hP1 hD1
  rw [List.append_nil] at J
  exact K w hBw p l ee s m below meth c X H1 locs1 ls J.1 J.2 hS1 hL
end GC
