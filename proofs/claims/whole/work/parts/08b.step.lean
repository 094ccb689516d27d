/-! a state of the pure machine, over the machine -/
def qCx (k : Nat) (E : qE) (p : Program) (s : State) (m : MethodId) (args : Array Value) (meth : Method) (c : Code) : Prop :=
  p.tables.exec = Jvm.exec ∧ c.code = (qMT k).2.1 ∧ c.maxLocals = (qMT k).2.2.1 ∧ meth.sig.returnType = (qMT k).2.2.2.1 ∧ meth.locks = false ∧ s.vm.findClass (qCN (qMT k).2.2.2.2.1) = some m.cls ∧ (∀ w ∈ qAL, w.before args s = true) ∧ va_K E.1 vwCl (qtys E) s ∧ qStr E s s.heap ∧ E.2.2.2 ≤ s.heap.size
def qQc (E : qE) (Q : qQ) : Array Value → State → Outcome → State → Prop := match Q with
  | .inl q => va_Qi q (qWU E) (qA E)
  | .inr (.inl q) => va_Ql q (qWU E) (qA E)
  | .inr (.inr q) => va_Qv q (qWU E) (qA E)
def qV (k d : Nat) (Q : qQ) (pc : Nat) (lo : qLo) (st : List qPV) (σ : qSg) : Prop :=
  ∀ (p : Program) (l : Launch) (e : Env) (s : State) (m : MethodId) (args : Array Value) (below : List Frame) (meth : Method) (c : Code) (E : qE), qCx k E p s m args meth c →
  ∀ (H : Heap) (locs : List Loc) (ls : Array Slot), va_P E.1 vwCl (qws E σ) H → va_D (qA E) (qws E σ) → va_S (qA E) s.heap H locs → qLR E lo ls (qMT k).2.2.1 →
  W p l e (qRm d) s m args below meth c H locs 0 0 (MQ below (qQc E Q) args s 0 0 (qA E)) (F0 m pc ls (st.map (qTV E.2.1)))
theorem qIsI_ex {v : qPV} (h : qIsI v) : ∃ x, v = .inl x := by
  rcases v with x | x | _ | k
  · exact ⟨x, rfl⟩
  all_goals exact h.elim
theorem qIsL_ex {v : qPV} (h : qIsL v) : ∃ x, v = .inr (.inl x) := by
  rcases v with x | x | _ | k
  · exact h.elim
  · exact ⟨x, rfl⟩
  all_goals exact h.elim
theorem qIsR_ex {v : qPV} (h : qIsR v) : ∃ x, v = .inr (.inr (some x)) := by
  rcases v with x | x | _ | k
  · exact h.elim
  · exact h.elim
  · exact h.elim
  · exact ⟨k, rfl⟩
theorem qcs_sum (ad : Nat → Nat) : ∀ st : List qPV, ((st.map (qTV ad)).map fun v => v.category).sum = qcs st
  | [] => rfl
  | v :: t => by
    have := qcs_sum ad t
    simp only [List.map_cons, List.sum_cons, qcs, this, qTV_cat]
theorem qws_in : ∀ c, c < 13 → ∀ w ∈ u_ws (qCN c) (qTF c) (qnf c), w ∈ qAL := by
  intro c hc w hw
  have h1 : w ∈ tables_1 := by
    match c, hc with
    | 0, _ => exact inX0 w hw
    | 1, _ => exact inX1 w hw
    | 2, _ => exact inX2 w hw
    | 3, _ => exact inX3 w hw
    | 4, _ => exact inX4 w hw
    | 5, _ => exact inX5 w hw
    | 6, _ => exact inX6 w hw
    | 7, _ => exact inX7 w hw
    | 8, _ => exact inX8 w hw
    | 9, _ => exact inX9 w hw
    | 10, _ => exact inX10 w hw
    | 11, _ => exact inX11 w hw
    | 12, _ => exact inX12 w hw
    | n + 13, h => exact absurd h (by omega)
  refine List.mem_filter.mpr ⟨List.mem_append_right _ h1, ?_⟩
  obtain ⟨k, -, rfl⟩ := List.mem_map.mp hw
  unfold u_lay
  split <;> rfl
theorem qty_ok : ∀ c, c < 13 → ∀ k, k < qnf c → parseFieldDescriptor (qTF c k).2.2.1 = some (qTy c k)
  | 0, _ => tyX0_ok
  | 1, _ => tyX1_ok
  | 2, _ => tyX2_ok
  | 3, _ => tyX3_ok
  | 4, _ => tyX4_ok
  | 5, _ => tyX5_ok
  | 6, _ => tyX6_ok
  | 7, _ => tyX7_ok
  | 8, _ => tyX8_ok
  | 9, _ => tyX9_ok
  | 10, _ => tyX10_ok
  | 11, _ => tyX11_ok
  | 12, _ => tyX12_ok
  | n + 13, h => absurd h (by omega)
theorem qnm_ok : ∀ c, c < 13 → ∀ a, a < qnf c → ∀ b, b < qnf c → a ≠ b → (qTF c a).2.1 ≠ (qTF c b).2.1
  | 0, _ => nmX0
  | 1, _ => nmX1
  | 2, _ => nmX2
  | 3, _ => nmX3
  | 4, _ => nmX4
  | 5, _ => nmX5
  | 6, _ => nmX6
  | 7, _ => nmX7
  | 8, _ => nmX8
  | 9, _ => nmX9
  | 10, _ => nmX10
  | 11, _ => nmX11
  | 12, _ => nmX12
  | n + 13, h => absurd h (by omega)
theorem qft_int {c k : Nat} (h : qft c k = 0) : qTy c k = .int := by
  unfold qft at h
  split at h <;> first | assumption | (exact absurd h (by decide))
theorem qft_bool {c k : Nat} (h : qft c k = 3) : qTy c k = .boolean := by
  unfold qft at h
  split at h <;> first | assumption | (exact absurd h (by decide))
theorem qft_long {c k : Nat} (h : qft c k = 1) : qTy c k = .long := by
  unfold qft at h
  split at h <;> first | assumption | (exact absurd h (by decide))
theorem qStr_moved {E : qE} {u U : State} (hv : U.vm = u.vm) (hh : U.heap = u.heap) (h : qStr E u u.heap) : qStr E U U.heap := by
  have al : u.vm.Alike U.vm := by rw [hv]; exact Vm.Alike.refl _
  refine ⟨vk_R.same hv h.1, ?_⟩
  rw [hh]
  exact ⟨vk_S.moved al h.2.1, va_Z.moved al h.2.2.1, va_Zq.moved al h.2.2.2⟩
theorem qWU_blind {E : qE} {σ : qSg} {av : List Value} : FrameBlind (va_Pc av (qWU E σ)) := by
  intro a U g mk ⟨h0, h1, h2, h3, h4, h5⟩
  exact ⟨h0, h1, va_K.moved (u := U) (U := U.calling g mk a) (Vm.Alike.refl U.vm) h2, h3, qStr_moved (u := U) (U := U.calling g mk a) rfl rfl h4, h5⟩
theorem qWU_of {E : qE} {σ : qSg} {s U : State} {H : Heap} {locs : List Loc} (hKK : va_K E.1 vwCl (qtys E) s) (hStr : qStr E s s.heap) (hbs : E.2.2.2 ≤ s.heap.size) (hP : va_P E.1 vwCl (qws E σ) H) (hD : va_D (qA E) (qws E σ)) (hS : va_S (qA E) s.heap H locs) (hU : U.heap = H) (hW : s.WarmedH U.vm) : qWU E σ U := by
  subst hU
  have kp : ∀ a : Nat, a < s.heap.size → ¬ qA E a → U.heap[a]? = s.heap[a]? := fun a h1 h2 => hS.2.1 a h1 h2
  refine ⟨hP, hKK.moved hW.alike, hD, ⟨vk_R.warm hW hStr.1, (hStr.2.1.moved hW.alike).kept kp, (va_Z.moved hW.alike hStr.2.2.1).kept kp, (va_Zq.moved hW.alike hStr.2.2.2).kept kp⟩, Nat.le_trans hbs hS.1⟩
theorem qAW_in {k : Nat} (hg : qgood k) : ∀ w ∈ qAW (qMT k), w ∈ qAL := by
  intro w hw
  rcases List.mem_cons.mp hw with rfl | h
  · refine qIs_in (h := (qMT k).2.2.2.2.2.1.getD 0 0) ?_
    simp only [qIs, Bool.and_eq_true, decide_eq_true_eq]
    exact ⟨hg.2.1, rfl⟩
  · exact h
theorem qAL_good {w : Cond} (h : w ∈ qAL) : (w.onTables && w.keeps) = true ∨ ∃ ty, w = .arrayClass ty := good_of_word (List.mem_filter.mp h).2
theorem qsl_at {J : Nat → qLo → List qPV → qSg → Prop} {lo : qLo} {st : List qPV} {σ : qSg} {x : Int32} : ∀ (ts : List Nat) (a : Int) (j t : Nat), qsl J lo st σ x a ts → ts[j]? = some t → x.toInt = a + j → J t lo st σ
  | [], _, _, _, _, h, _ => by simp at h
  | u :: ts, a, 0, t, h, h1, h2 => by
    simp only [List.getElem?_cons_zero, Option.some.injEq] at h1
    subst h1
    exact h.1 (by simpa using h2)
  | u :: ts, a, j + 1, t, h, h1, h2 => qsl_at ts (a + 1) j t h.2 (by simpa using h1) (by omega)

theorem qent_ci (E : qE) (σ : qSg) {a i b j n : Nat} : ∀ c, c ≠ b → qent E (qci σ a i b j n) c = qent E σ c := by
  intro c hb
  have e1 : (qci σ a i b j n).1 c = σ.1 c := by funext k; simp [qci, hb]
  have e2 : (qci σ a i b j n).2 = σ.2 := rfl
  have e3 : ∀ x y, qfv E (qci σ a i b j n) x c y = qfv E σ x c y := fun x y => by simp only [qfv, qfl, e1, e2]
  simp only [qent, e1, e2, e3]
theorem qent_cl (E : qE) (σ : qSg) {a i b j n : Nat} : ∀ c, c ≠ b → qent E (qcl σ a i b j n) c = qent E σ c := by
  intro c hb
  have e1 : (qcl σ a i b j n).2 c = σ.2 c := by funext k; simp [qcl, hb]
  have e2 : (qcl σ a i b j n).1 = σ.1 := rfl
  have e3 : ∀ x y, qfv E (qcl σ a i b j n) x c y = qfv E σ x c y := fun x y => by simp only [qfv, qfl, e1, e2]
  simp only [qent, e1, e2, e3]
theorem qobj_c : ∀ a, a < qKL.length → (qKd a).1 < 23 := by decide +kernel
theorem qcall_s {k d pc k0 n0 h0 np0 rk0 c0 : Nat} {Q : qQ} {K : qLo → List qPV → qSg → Prop} {lo : qLo} {st : List qPV} {σ : qSg} {p : Program} {l : Launch} {e : Env} {s : State} {m : MethodId} {args : Array Value} {below : List Frame} {meth : Method} {c : Code} {E : qE} (C : qCx k E p s m args meth c) {H : Heap} {locs : List Loc} {ls : Array Slot}
    (hP : va_P E.1 vwCl (qws E σ) H) (hD : va_D (qA E) (qws E σ)) (hS : va_S (qA E) s.heap H locs) (hL : qLR E lo ls (qMT k).2.2.1) (hd : decode (qMT k).2.1 pc = .ok (.invokestatic n0, 3)) (c3 : (qMT k0).2.2.2.2.2.2.2.1 = true) (c4 : qIs h0 (.methodLink (qCN (qMT k).2.2.2.2.1) n0 (qMT k0).1) = true) (c5 : np0 = (qMT k0).2.2.2.2.2.2.1)
    (h1 : np0 ≤ st.length) (h2 : qcs (st.drop np0) ≤ 8) (h3 : qRcv c0 (st.take np0).reverse)
    (h : (if rk0 = 0 then qBI d k0 (st.take np0).reverse σ (fun r σ' => K lo (.inl r :: st.drop np0) σ') else if rk0 = 1 then qBL d k0 (st.take np0).reverse σ (fun r σ' => K lo (.inr (.inl r) :: st.drop np0) σ') else qBV d k0 (st.take np0).reverse σ (fun σ' => K lo (st.drop np0) σ')))
    (hK : ∀ lo st σ, K lo st σ → ∀ (H : Heap) (locs : List Loc) (ls : Array Slot), va_P E.1 vwCl (qws E σ) H → va_D (qA E) (qws E σ) → va_S (qA E) s.heap H locs → qLR E lo ls (qMT k).2.2.1 → W p l e (qRm d) s m args below meth c H locs 0 0 (MQ below (qQc E Q) args s 0 0 (qA E)) (F0 m (pc + 3) ls (st.map (qTV E.2.1)))) :
    W p l e (qRm d) s m args below meth c H locs 0 0 (MQ below (qQc E Q) args s 0 0 (qA E)) (F0 m pc ls (st.map (qTV E.2.1))) := by
  obtain ⟨hx, hb, hml, hr, hlk, hown, hts, hKK, hStr, hbs⟩ := id C
  have hst : st.map (qTV E.2.1) = (((st.take np0).reverse).map (qTV E.2.1)).reverse ++ (st.drop np0).map (qTV E.2.1) := by
    rw [← List.map_reverse, List.reverse_reverse, ← List.map_append, List.take_append_drop]
  have hlen : ((st.take np0).reverse).length = np0 := by simp; omega
  have hW8 : 2 * (F0 m pc ls (st.map (qTV E.2.1))).monitorRoom + (((st.drop np0).map (qTV E.2.1)).map fun v => v.category).sum ≤ 8 := by
    rw [qcs_sum]
    show 2 * 0 + _ ≤ 8
    omega
  have hcb : ∀ {d' : Nat} (hdd : d' < d) (hg : qgood k0), CallB (qRm d) s args (qCN (qMT k).2.2.2.2.1) n0 (qMT k0).1 (qMT k0).2.1 (qMT k0).2.2.1 (qMT k0).2.2.2.1 (qAW (qMT k0)) (qRm d') 0 0 (qMT k0).2.2.2.2.2.2.1 ∧ (Cond.static (qMT k0).1).before args s = true := by
    intro d' hdd hg
    obtain ⟨hmk, hcw, -⟩ := id hg
    simp only [qmk, Bool.and_eq_true, decide_eq_true_eq] at hmk
    obtain ⟨⟨⟨⟨⟨⟨m2, m3⟩, m4⟩, m5⟩, m6⟩, m7⟩, m8⟩ := hmk
    rw [c3] at m8
    simp only [if_true] at m8
    refine ⟨⟨rfl, rfl, ?_, ?_, fun w hw a' U hW => word_at hW (qAL_good (qAW_in hg w hw)) (hts w (qAW_in hg w hw)), List.mem_cons_self, hts _ (qAW_in hg _ List.mem_cons_self), hts _ (qIs_in m2), m4, fun sig hs => ?_, hts _ (qIs_in c4)⟩, hts _ (qIs_in m8)⟩
    · show d' + 1 ≤ d
      omega
    · show 8 + (_ + 11) + 64 * d' ≤ 64 * d
      omega
    · rw [hs] at m7
      exact (Option.some.inj m7).symm
  split at h
  · obtain ⟨d1, P1, hd1, hM0, hmono⟩ := h
    refine va_calli (va_runS (As := ((st.take np0).reverse).map (qTV E.2.1)) (rest := (st.drop np0).map (qTV E.2.1)) ⟨hx, hb, hml, hown, hts⟩ (hM0.2 l E) (hcb hd1 hM0.1) ⟨qWU_blind, fun U hU hW => ⟨rfl, qWU_of hKK hStr hbs hP hD hS hU hW⟩⟩ rfl (by rw [List.length_map, hlen]; exact c5) hL.1 hst hW8 hd ⟨Nat.zero_le _, Nat.zero_le _⟩) hS (fun _ _ h9 => h9) (fun _ h9 => h9) (fun r σ1 t H1 locs1 ht hvm hp hB hz hk hS1 => ?_)
    obtain ⟨hP1, -, hD1, -, -⟩ := hB
    rw [ht] at hP1
    exact hK _ (.inl r :: st.drop np0) σ1 (hmono r σ1 hp) H1 locs1 ls hP1 hD1 hS1 hL
  · split at h
    · obtain ⟨d1, P1, hd1, hM0, hmono⟩ := h
      refine va_calll (va_runS (As := ((st.take np0).reverse).map (qTV E.2.1)) (rest := (st.drop np0).map (qTV E.2.1)) ⟨hx, hb, hml, hown, hts⟩ (hM0.2 l E) (hcb hd1 hM0.1) ⟨qWU_blind, fun U hU hW => ⟨rfl, qWU_of hKK hStr hbs hP hD hS hU hW⟩⟩ rfl (by rw [List.length_map, hlen]; exact c5) hL.1 hst hW8 hd ⟨Nat.zero_le _, Nat.zero_le _⟩) hS (fun _ _ h9 => h9) (fun _ h9 => h9) (fun r σ1 t H1 locs1 ht hvm hp hB hz hk hS1 => ?_)
      obtain ⟨hP1, -, hD1, -, -⟩ := hB
      rw [ht] at hP1
      exact hK _ (.inr (.inl r) :: st.drop np0) σ1 (hmono r σ1 hp) H1 locs1 ls hP1 hD1 hS1 hL
    · obtain ⟨d1, P1, hd1, hM0, hmono⟩ := h
      refine va_callv (va_runS (As := ((st.take np0).reverse).map (qTV E.2.1)) (rest := (st.drop np0).map (qTV E.2.1)) ⟨hx, hb, hml, hown, hts⟩ (hM0.2 l E) (hcb hd1 hM0.1) ⟨qWU_blind, fun U hU hW => ⟨rfl, qWU_of hKK hStr hbs hP hD hS hU hW⟩⟩ rfl (by rw [List.length_map, hlen]; exact c5) hL.1 hst hW8 hd ⟨Nat.zero_le _, Nat.zero_le _⟩) hS (fun _ _ h9 => h9) (fun _ h9 => h9) (fun σ1 t H1 locs1 ht hvm hp hB hz hk hS1 => ?_)
      obtain ⟨hP1, -, hD1, -, -⟩ := hB
      rw [ht] at hP1
      exact hK _ (st.drop np0) σ1 (hmono σ1 hp) H1 locs1 ls hP1 hD1 hS1 hL
theorem qcall_v {k d pc k0 n0 h0 np0 rk0 c0 : Nat} {Q : qQ} {K : qLo → List qPV → qSg → Prop} {lo : qLo} {st : List qPV} {σ : qSg} {p : Program} {l : Launch} {e : Env} {s : State} {m : MethodId} {args : Array Value} {below : List Frame} {meth : Method} {c : Code} {E : qE} (C : qCx k E p s m args meth c) {H : Heap} {locs : List Loc} {ls : Array Slot}
    (hP : va_P E.1 vwCl (qws E σ) H) (hD : va_D (qA E) (qws E σ)) (hS : va_S (qA E) s.heap H locs) (hL : qLR E lo ls (qMT k).2.2.1) (hd : decode (qMT k).2.1 pc = .ok (.invokevirtual n0, 3)) (c3 : (qMT k0).2.2.2.2.2.2.2.1 = false) (c4 : qIs h0 (.methodLink (qCN (qMT k).2.2.2.2.1) n0 (qMT k0).1) = true) (c5 : np0 = (qMT k0).2.2.2.2.2.2.1 + 1) (c6 : c0 = (qMT k0).2.2.2.2.1 + 1)
    (h1 : np0 ≤ st.length) (h2 : qcs (st.drop np0) ≤ 8) (h3 : qRcv c0 (st.take np0).reverse)
    (h : (if rk0 = 0 then qBI d k0 (st.take np0).reverse σ (fun r σ' => K lo (.inl r :: st.drop np0) σ') else if rk0 = 1 then qBL d k0 (st.take np0).reverse σ (fun r σ' => K lo (.inr (.inl r) :: st.drop np0) σ') else qBV d k0 (st.take np0).reverse σ (fun σ' => K lo (st.drop np0) σ')))
    (hK : ∀ lo st σ, K lo st σ → ∀ (H : Heap) (locs : List Loc) (ls : Array Slot), va_P E.1 vwCl (qws E σ) H → va_D (qA E) (qws E σ) → va_S (qA E) s.heap H locs → qLR E lo ls (qMT k).2.2.1 → W p l e (qRm d) s m args below meth c H locs 0 0 (MQ below (qQc E Q) args s 0 0 (qA E)) (F0 m (pc + 3) ls (st.map (qTV E.2.1)))) :
    W p l e (qRm d) s m args below meth c H locs 0 0 (MQ below (qQc E Q) args s 0 0 (qA E)) (F0 m pc ls (st.map (qTV E.2.1))) := by
  obtain ⟨hx, hb, hml, hr, hlk, hown, hts, hKK, hStr, hbs⟩ := id C
  have hst : st.map (qTV E.2.1) = (((st.take np0).reverse).map (qTV E.2.1)).reverse ++ (st.drop np0).map (qTV E.2.1) := by
    rw [← List.map_reverse, List.reverse_reverse, ← List.map_append, List.take_append_drop]
  have hlen : ((st.take np0).reverse).length = np0 := by simp; omega
  have hW8 : 2 * (F0 m pc ls (st.map (qTV E.2.1))).monitorRoom + (((st.drop np0).map (qTV E.2.1)).map fun v => v.category).sum ≤ 8 := by
    rw [qcs_sum]
    show 2 * 0 + _ ≤ 8
    omega
  have hcb : ∀ {d' : Nat} (hdd : d' < d) (hg : qgood k0), CallB (qRm d) s args (qCN (qMT k).2.2.2.2.1) n0 (qMT k0).1 (qMT k0).2.1 (qMT k0).2.2.1 (qMT k0).2.2.2.1 (qAW (qMT k0)) (qRm d') 0 0 (qMT k0).2.2.2.2.2.2.1 ∧ (Cond.instanceMethod (qMT k0).1).before args s = true ∧ (Cond.selects (qMT k0).1.cls (qMT k0).1 (qMT k0).1).before args s = true := by
    intro d' hdd hg
    obtain ⟨hmk, hcw, -⟩ := id hg
    simp only [qmk, Bool.and_eq_true, decide_eq_true_eq] at hmk
    obtain ⟨⟨⟨⟨⟨⟨m2, m3⟩, m4⟩, m5⟩, m6⟩, m7⟩, m8⟩ := hmk
    rw [c3] at m8
    simp only [Bool.false_eq_true, if_false, Bool.and_eq_true] at m8
    refine ⟨⟨rfl, rfl, ?_, ?_, fun w hw a' U hW => word_at hW (qAL_good (qAW_in hg w hw)) (hts w (qAW_in hg w hw)), List.mem_cons_self, hts _ (qAW_in hg _ List.mem_cons_self), hts _ (qIs_in m2), m4, fun sig hs => ?_, hts _ (qIs_in c4)⟩, hts _ (qIs_in m8.1), hts _ (qIs_in m8.2)⟩
    · show d' + 1 ≤ d
      omega
    · show 8 + (_ + 11) + 64 * d' ≤ 64 * d
      omega
    · rw [hs] at m7
      exact (Option.some.inj m7).symm
  obtain ⟨b, as, hbas⟩ : ∃ b as, (st.take np0).reverse = b :: as := by
    cases hh : (st.take np0).reverse with
    | nil => rw [hh] at hlen; simp at hlen; omega
    | cons b as => exact ⟨b, as, rfl⟩
  rw [hbas] at h3 h hst hlen
  have hn' : as.length = (qMT k0).2.2.2.2.2.2.1 := by simp at hlen; omega
  obtain ⟨b0, rfl⟩ : ∃ b0, b = .inr (.inr (some b0)) := by
    rcases b with x | x | _ | b0
    · exact absurd h3 (by simp only [qRcv]; omega)
    · exact absurd h3 (by simp only [qRcv]; omega)
    · exact absurd h3 (by simp only [qRcv]; omega)
    · exact ⟨b0, rfl⟩
  have hrecv : ∀ (_ : qgood k0), ∃ cellB : Cell, H[E.2.1 b0]? = some cellB ∧ cellB.vm.isStatics = false ∧ s.vm.findClass (qMT k0).1.cls = some cellB.cls := by
    intro hg
    obtain ⟨hmk, -, -⟩ := id hg
    simp only [qmk, Bool.and_eq_true, decide_eq_true_eq] at hmk
    obtain ⟨⟨⟨⟨⟨⟨-, m3⟩, -⟩, -⟩, -⟩, -⟩, -⟩ := hmk
    rw [m3]
    simp only [qRcv] at h3
    rw [if_neg (by omega)] at h3
    split at h3
    · rename_i h91
      subst h3
      have e90 : (qMT k0).2.2.2.2.1 = 90 := by omega
      rw [e90]
      obtain ⟨cell, g1, g2, g3, g4⟩ := (hStr.2.1.1 0 (by decide)).1
      exact ⟨cell, by rw [hS.2.1 _ (Array.getElem?_eq_some_iff.mp g1).1 g4]; exact g1, g2, g3⟩
    · have h10 : (qKd b0).1 = 10 + (qMT k0).2.2.2.2.1 := by omega
      have hlt := qKd_lt (a := b0) (Or.inl (by omega))
      have hc13 : (qMT k0).2.2.2.2.1 < 13 := by
        have := qobj_c b0 hlt
        omega
      exact va_recv hKK hP (qcl_at _ hc13) ((qws_at E σ hlt).trans (by rw [qent_obj E σ h10]))
  split at h
  · obtain ⟨d1, P1, hd1, hM0, hmono⟩ := h
    refine va_calli (va_runV (C := (qMT k0).1.cls) (b := E.2.1 b0) (As := as.map (qTV E.2.1)) (rest := (st.drop np0).map (qTV E.2.1)) ⟨hx, hb, hml, hown, hts⟩ (hM0.2 l E) ⟨(hcb hd1 hM0.1).1, (hcb hd1 hM0.1).2.1, (hcb hd1 hM0.1).2.2⟩ ⟨qWU_blind, hrecv hM0.1, fun U hU hW => ⟨rfl, qWU_of hKK hStr hbs hP hD hS hU hW⟩⟩ rfl (by rw [List.length_map]; exact hn') hL.1 (hst.trans (by simp [qTV])) hW8 hd ⟨Nat.zero_le _, Nat.zero_le _⟩) hS (fun _ _ h9 => h9) (fun _ h9 => h9) (fun r σ1 t H1 locs1 ht hvm hp hB hz hk hS1 => ?_)
    obtain ⟨hP1, -, hD1, -, -⟩ := hB
    rw [ht] at hP1
    exact hK _ (.inl r :: st.drop np0) σ1 (hmono r σ1 hp) H1 locs1 ls hP1 hD1 hS1 hL
  · split at h
    · obtain ⟨d1, P1, hd1, hM0, hmono⟩ := h
      refine va_calll (va_runV (C := (qMT k0).1.cls) (b := E.2.1 b0) (As := as.map (qTV E.2.1)) (rest := (st.drop np0).map (qTV E.2.1)) ⟨hx, hb, hml, hown, hts⟩ (hM0.2 l E) ⟨(hcb hd1 hM0.1).1, (hcb hd1 hM0.1).2.1, (hcb hd1 hM0.1).2.2⟩ ⟨qWU_blind, hrecv hM0.1, fun U hU hW => ⟨rfl, qWU_of hKK hStr hbs hP hD hS hU hW⟩⟩ rfl (by rw [List.length_map]; exact hn') hL.1 (hst.trans (by simp [qTV])) hW8 hd ⟨Nat.zero_le _, Nat.zero_le _⟩) hS (fun _ _ h9 => h9) (fun _ h9 => h9) (fun r σ1 t H1 locs1 ht hvm hp hB hz hk hS1 => ?_)
      obtain ⟨hP1, -, hD1, -, -⟩ := hB
      rw [ht] at hP1
      exact hK _ (.inr (.inl r) :: st.drop np0) σ1 (hmono r σ1 hp) H1 locs1 ls hP1 hD1 hS1 hL
    · obtain ⟨d1, P1, hd1, hM0, hmono⟩ := h
      refine va_callv (va_runV (C := (qMT k0).1.cls) (b := E.2.1 b0) (As := as.map (qTV E.2.1)) (rest := (st.drop np0).map (qTV E.2.1)) ⟨hx, hb, hml, hown, hts⟩ (hM0.2 l E) ⟨(hcb hd1 hM0.1).1, (hcb hd1 hM0.1).2.1, (hcb hd1 hM0.1).2.2⟩ ⟨qWU_blind, hrecv hM0.1, fun U hU hW => ⟨rfl, qWU_of hKK hStr hbs hP hD hS hU hW⟩⟩ rfl (by rw [List.length_map]; exact hn') hL.1 (hst.trans (by simp [qTV])) hW8 hd ⟨Nat.zero_le _, Nat.zero_le _⟩) hS (fun _ _ h9 => h9) (fun _ h9 => h9) (fun σ1 t H1 locs1 ht hvm hp hB hz hk hS1 => ?_)
      obtain ⟨hP1, -, hD1, -, -⟩ := hB
      rw [ht] at hP1
      exact hK _ (st.drop np0) σ1 (hmono σ1 hp) H1 locs1 ls hP1 hD1 hS1 hL
set_option maxRecDepth 20000 in
set_option maxHeartbeats 4000000 in
theorem qX_ok {k d : Nat} {Q : qQ} {J : Nat → qLo → List qPV → qSg → Prop} {pc n : Nat} {i : Instr} {dt : List Nat} {K : qLo → List qPV → qSg → Prop} {lo : qLo} {st : List qPV} {σ : qSg}
    (hd : decode (qMT k).2.1 pc = .ok (i, n)) (hn : qln i n = true) (hc : qdk (qMT k).2.2.2.2.1 (qMT k).2.2.1 (qMT k).2.2.2.1 pc i dt = true)
    (hJ : ∀ t lo st σ, J t lo st σ → qV k d Q t lo st σ) (hK : ∀ lo st σ, K lo st σ → qV k d Q (pc + n) lo st σ) (h : qX d J Q i dt K lo st σ) : qV k d Q pc lo st σ := by
  unfold qX at h
  split at h
  · exact absurd hn (by simp [qln])
  · rename_i st n0 v
    obtain rfl : n = 1 := of_decide_eq_true hn
    intro p l e s m args below meth c E C H locs ls hP hD hS hL
    obtain ⟨hx, hb, hml, hr, hlk, hown, hts, hKK, hStr, hbs⟩ := id C
    exact lv_iconst (v := nI v) hx hb hd (of_decide_eq_true hc) (hK _ _ _ h p l e s m args below meth c E C H locs ls hP hD hS hL)
  · rename_i n0 st
    obtain rfl : n = 1 := of_decide_eq_true hn
    intro p l e s m args below meth c E C H locs ls hP hD hS hL
    obtain ⟨hx, hb, hml, hr, hlk, hown, hts, hKK, hStr, hbs⟩ := id C
    exact lv_iconst hx hb hd rfl (hK _ _ _ h p l e s m args below meth c E C H locs ls hP hD hS hL)
  · rename_i st n0 v
    obtain rfl : n = 2 := of_decide_eq_true hn
    intro p l e s m args below meth c E C H locs ls hP hD hS hL
    obtain ⟨hx, hb, hml, hr, hlk, hown, hts, hKK, hStr, hbs⟩ := id C
    exact lv_bipush (v := nI v) hx hb hd (of_decide_eq_true hc) (hK _ _ _ h p l e s m args below meth c E C H locs ls hP hD hS hL)
  · rename_i n0 st
    obtain rfl : n = 2 := of_decide_eq_true hn
    intro p l e s m args below meth c E C H locs ls hP hD hS hL
    obtain ⟨hx, hb, hml, hr, hlk, hown, hts, hKK, hStr, hbs⟩ := id C
    exact lv_bipush hx hb hd (of_decide_eq_true hc) (hK _ _ _ h p l e s m args below meth c E C H locs ls hP hD hS hL)
  · rename_i st n0 v
    obtain rfl : n = 3 := of_decide_eq_true hn
    intro p l e s m args below meth c E C H locs ls hP hD hS hL
    obtain ⟨hx, hb, hml, hr, hlk, hown, hts, hKK, hStr, hbs⟩ := id C
    exact lv_sipush (v := nI v) hx hb hd (of_decide_eq_true hc) (hK _ _ _ h p l e s m args below meth c E C H locs ls hP hD hS hL)
  · rename_i n0 st
    obtain rfl : n = 3 := of_decide_eq_true hn
    intro p l e s m args below meth c E C H locs ls hP hD hS hL
    obtain ⟨hx, hb, hml, hr, hlk, hown, hts, hKK, hStr, hbs⟩ := id C
    exact lv_sipush hx hb hd (of_decide_eq_true hc) (hK _ _ _ h p l e s m args below meth c E C H locs ls hP hD hS hL)
  · rename_i st n0 h0 v
    obtain rfl : n = 2 := of_decide_eq_true hn
    intro p l e s m args below meth c E C H locs ls hP hD hS hL
    obtain ⟨hx, hb, hml, hr, hlk, hown, hts, hKK, hStr, hbs⟩ := id C
    exact lv_ldc hx hb hown (hts _ (qIs_in hc)) hd (hK _ _ _ h p l e s m args below meth c E C H locs ls hP hD hS hL)
  · rename_i st n0 h0 k0 z0
    obtain rfl : n = 2 := of_decide_eq_true hn
    have hc : (decide ((qMT k).2.2.2.2.1 = 12) && decide (n0 = qKEYi) && decide (k0 = 1000)) = true := hc
    simp only [Bool.and_eq_true, decide_eq_true_eq] at hc
    obtain ⟨⟨hc1, rfl⟩, rfl⟩ := hc
    intro p l e s m args below meth c E C H locs ls hP hD hS hL
    obtain ⟨hx, hb, hml, hr, hlk, hown, hts, hKK, hStr, hbs⟩ := id C
    rw [hc1] at hown
    exact va_ldcS (own := RX12) (tx := qKEYS) (q := E.2.1 1000) hx hb hown hStr.1 hd (hK _ _ _ h p l e s m args below meth c E C H locs ls hP hD hS hL)
  · rename_i st n0 h0 v
    obtain rfl : n = 3 := of_decide_eq_true hn
    intro p l e s m args below meth c E C H locs ls hP hD hS hL
    obtain ⟨hx, hb, hml, hr, hlk, hown, hts, hKK, hStr, hbs⟩ := id C
    exact lv_ldcw hx hb hown (hts _ (qIs_in hc)) hd (hK _ _ _ h p l e s m args below meth c E C H locs ls hP hD hS hL)
  · rename_i st n0 h0 v
    obtain rfl : n = 3 := of_decide_eq_true hn
    intro p l e s m args below meth c E C H locs ls hP hD hS hL
    obtain ⟨hx, hb, hml, hr, hlk, hown, hts, hKK, hStr, hbs⟩ := id C
    exact lv_ldc2 hx hb hown (hts _ (qIs_in hc)) hd (hK _ _ _ h p l e s m args below meth c E C H locs ls hP hD hS hL)
  · rename_i st n0 h0 v z0
    obtain rfl : n = 3 := of_decide_eq_true hn
    intro p l e s m args below meth c E C H locs ls hP hD hS hL
    obtain ⟨hx, hb, hml, hr, hlk, hown, hts, hKK, hStr, hbs⟩ := id C
    exact lv_ldc2 hx hb hown (hts _ (qIs_in hc)) hd (hK _ _ _ h p l e s m args below meth c E C H locs ls hP hD hS hL)
  · rename_i st n0
    obtain rfl : n = 1 := of_decide_eq_true hn
    intro p l e s m args below meth c E C H locs ls hP hD hS hL
    obtain ⟨hx, hb, hml, hr, hlk, hown, hts, hKK, hStr, hbs⟩ := id C
    exact lv_lconst hx hb hd (v := lN n0) rfl (hK _ _ _ h p l e s m args below meth c E C H locs ls hP hD hS hL)
  · rename_i n0 st
    obtain rfl : n = 1 := of_decide_eq_true hn
    obtain ⟨h1, h⟩ := h
    obtain ⟨x, hxx⟩ := qIsI_ex h1
    rw [hxx] at h
    intro p l e s m args below meth c E C H locs ls hP hD hS hL
    obtain ⟨hx, hb, hml, hr, hlk, hown, hts, hKK, hStr, hbs⟩ := id C
    exact lv_iload_n hx hb hd rfl (hL.2.2 _ _ (qlg_some lo _ hxx (by simp))) (hK _ _ _ h p l e s m args below meth c E C H locs ls hP hD hS hL)
  · rename_i n0 st
    obtain rfl : n = 2 := of_decide_eq_true hn
    obtain ⟨h1, h⟩ := h
    obtain ⟨x, hxx⟩ := qIsI_ex h1
    rw [hxx] at h
    intro p l e s m args below meth c E C H locs ls hP hD hS hL
    obtain ⟨hx, hb, hml, hr, hlk, hown, hts, hKK, hStr, hbs⟩ := id C
    exact lv_iload hx hb hd (hL.2.2 _ _ (qlg_some lo _ hxx (by simp))) (hK _ _ _ h p l e s m args below meth c E C H locs ls hP hD hS hL)
  · rename_i n0 st
    obtain rfl : n = 1 := of_decide_eq_true hn
    obtain ⟨h1, h⟩ := h
    obtain ⟨x, hxx⟩ := qIsL_ex h1
    rw [hxx] at h
    intro p l e s m args below meth c E C H locs ls hP hD hS hL
    obtain ⟨hx, hb, hml, hr, hlk, hown, hts, hKK, hStr, hbs⟩ := id C
    exact lv_lload_n hx hb hd rfl (hL.2.2 _ _ (qlg_some lo _ hxx (by simp))) (hK _ _ _ h p l e s m args below meth c E C H locs ls hP hD hS hL)
  · rename_i n0 st
    obtain rfl : n = 2 := of_decide_eq_true hn
    obtain ⟨h1, h⟩ := h
    obtain ⟨x, hxx⟩ := qIsL_ex h1
    rw [hxx] at h
    intro p l e s m args below meth c E C H locs ls hP hD hS hL
    obtain ⟨hx, hb, hml, hr, hlk, hown, hts, hKK, hStr, hbs⟩ := id C
    exact lv_lload hx hb hd (hL.2.2 _ _ (qlg_some lo _ hxx (by simp))) (hK _ _ _ h p l e s m args below meth c E C H locs ls hP hD hS hL)
  · rename_i n0 st
    obtain rfl : n = 1 := of_decide_eq_true hn
    obtain ⟨h1, h⟩ := h
    obtain ⟨x, hxx⟩ := qIsR_ex h1
    rw [hxx] at h
    intro p l e s m args below meth c E C H locs ls hP hD hS hL
    obtain ⟨hx, hb, hml, hr, hlk, hown, hts, hKK, hStr, hbs⟩ := id C
    exact lv_aload_n hx hb hd rfl (hL.2.2 _ _ (qlg_some lo _ hxx (by simp))) (hK _ _ _ h p l e s m args below meth c E C H locs ls hP hD hS hL)
  · rename_i n0 st
    obtain rfl : n = 2 := of_decide_eq_true hn
    obtain ⟨h1, h⟩ := h
    obtain ⟨x, hxx⟩ := qIsR_ex h1
    rw [hxx] at h
    intro p l e s m args below meth c E C H locs ls hP hD hS hL
    obtain ⟨hx, hb, hml, hr, hlk, hown, hts, hKK, hStr, hbs⟩ := id C
    exact lv_aload hx hb hd (hL.2.2 _ _ (qlg_some lo _ hxx (by simp))) (hK _ _ _ h p l e s m args below meth c E C H locs ls hP hD hS hL)
  · rename_i n0 x0 st
    obtain rfl : n = 1 := of_decide_eq_true hn
    intro p l e s m args below meth c E C H locs ls hP hD hS hL
    obtain ⟨hx, hb, hml, hr, hlk, hown, hts, hKK, hStr, hbs⟩ := id C
    exact lv_istore_n hx hb hd rfl (qLR_has hL) (of_decide_eq_true hc) rfl (fun ls1 hl => hK _ _ _ h p l e s m args below meth c E C H locs ls1 hP hD hS (qLR_st1 (v := .inl x0) rfl hl))
  · rename_i n0 x0 st
    obtain rfl : n = 2 := of_decide_eq_true hn
    intro p l e s m args below meth c E C H locs ls hP hD hS hL
    obtain ⟨hx, hb, hml, hr, hlk, hown, hts, hKK, hStr, hbs⟩ := id C
    exact lv_istore hx hb hd (qLR_has hL) (of_decide_eq_true hc) rfl (fun ls1 hl => hK _ _ _ h p l e s m args below meth c E C H locs ls1 hP hD hS (qLR_st1 (v := .inl x0) rfl hl))
  · rename_i n0 x0 st
    obtain rfl : n = 1 := of_decide_eq_true hn
    intro p l e s m args below meth c E C H locs ls hP hD hS hL
    obtain ⟨hx, hb, hml, hr, hlk, hown, hts, hKK, hStr, hbs⟩ := id C
    exact lv_lstore_n hx hb hd rfl (qLR_has hL) (of_decide_eq_true hc) rfl (fun ls1 hl => hK _ _ _ h p l e s m args below meth c E C H locs ls1 hP hD hS (qLR_st2 (v := .inr (.inl x0)) rfl hl))
  · rename_i n0 x0 st
    obtain rfl : n = 2 := of_decide_eq_true hn
    intro p l e s m args below meth c E C H locs ls hP hD hS hL
    obtain ⟨hx, hb, hml, hr, hlk, hown, hts, hKK, hStr, hbs⟩ := id C
    exact lv_lstore hx hb hd (qLR_has hL) (of_decide_eq_true hc) rfl (fun ls1 hl => hK _ _ _ h p l e s m args below meth c E C H locs ls1 hP hD hS (qLR_st2 (v := .inr (.inl x0)) rfl hl))
  · rename_i n0 x0 st
    obtain rfl : n = 1 := of_decide_eq_true hn
    intro p l e s m args below meth c E C H locs ls hP hD hS hL
    obtain ⟨hx, hb, hml, hr, hlk, hown, hts, hKK, hStr, hbs⟩ := id C
    exact lv_astore_n hx hb hd rfl (qLR_has hL) (of_decide_eq_true hc) rfl (fun ls1 hl => hK _ _ _ h p l e s m args below meth c E C H locs ls1 hP hD hS (qLR_st1 (v := .inr (.inr (some x0))) rfl hl))
  · rename_i n0 x0 st
    obtain rfl : n = 2 := of_decide_eq_true hn
    intro p l e s m args below meth c E C H locs ls hP hD hS hL
    obtain ⟨hx, hb, hml, hr, hlk, hown, hts, hKK, hStr, hbs⟩ := id C
    exact lv_astore hx hb hd (qLR_has hL) (of_decide_eq_true hc) rfl (fun ls1 hl => hK _ _ _ h p l e s m args below meth c E C H locs ls1 hP hD hS (qLR_st1 (v := .inr (.inr (some x0))) rfl hl))
  · rename_i st n0 c0 v0
    obtain rfl : n = 3 := of_decide_eq_true hn
    obtain ⟨h1, h⟩ := h
    obtain ⟨x, hxx⟩ := qIsI_ex h1
    rw [hxx] at h
    have hc : (decide (n0 < (qMT k).2.2.1) && decide (Int32.ofInt c0 = nI v0)) = true := hc
    simp only [Bool.and_eq_true, decide_eq_true_eq] at hc
    obtain ⟨hc1, hc2⟩ := hc
    intro p l e s m args below meth c E C H locs ls hP hD hS hL
    obtain ⟨hx, hb, hml, hr, hlk, hown, hts, hKK, hStr, hbs⟩ := id C
    obtain ⟨kk, hkk⟩ := List.getElem?_of_mem (qmkl_mem (E := E) (lo := lo) (q := (n0, .int x)) |>.mpr ⟨.inl x, qlg_some lo _ hxx (by simp), rfl⟩)
    exact lv_iinc (v := x + nI v0) hx hb hd (qLR_has hL) hkk (by rw [hc2]) hc1 rfl (fun ls1 hl => hK _ _ _ h p l e s m args below meth c E C H locs ls1 hP hD hS (qLR_st1 (v := .inl (x + nI v0)) rfl hl))
  · rename_i st n0 c0
    obtain rfl : n = 3 := of_decide_eq_true hn
    obtain ⟨h1, h⟩ := h
    obtain ⟨x, hxx⟩ := qIsI_ex h1
    rw [hxx] at h
    have hc1 : n0 < (qMT k).2.2.1 := of_decide_eq_true hc
    intro p l e s m args below meth c E C H locs ls hP hD hS hL
    obtain ⟨hx, hb, hml, hr, hlk, hown, hts, hKK, hStr, hbs⟩ := id C
    obtain ⟨kk, hkk⟩ := List.getElem?_of_mem (qmkl_mem (E := E) (lo := lo) (q := (n0, .int x)) |>.mpr ⟨.inl x, qlg_some lo _ hxx (by simp), rfl⟩)
    exact lv_iinc (v := x + Int32.ofInt c0) hx hb hd (qLR_has hL) hkk rfl hc1 rfl (fun ls1 hl => hK _ _ _ h p l e s m args below meth c E C H locs ls1 hP hD hS (qLR_st1 (v := .inl (x + Int32.ofInt c0)) rfl hl))
  · rename_i y0 x0 st
    obtain rfl : n = 1 := of_decide_eq_true hn
    intro p l e s m args below meth c E C H locs ls hP hD hS hL
    obtain ⟨hx, hb, hml, hr, hlk, hown, hts, hKK, hStr, hbs⟩ := id C
    exact lv_iadd hx hb hd (hK _ _ _ h p l e s m args below meth c E C H locs ls hP hD hS hL)
  · rename_i y0 x0 st
    obtain rfl : n = 1 := of_decide_eq_true hn
    intro p l e s m args below meth c E C H locs ls hP hD hS hL
    obtain ⟨hx, hb, hml, hr, hlk, hown, hts, hKK, hStr, hbs⟩ := id C
    exact lv_isub hx hb hd (hK _ _ _ h p l e s m args below meth c E C H locs ls hP hD hS hL)
  · rename_i y0 x0 st
    obtain rfl : n = 1 := of_decide_eq_true hn
    intro p l e s m args below meth c E C H locs ls hP hD hS hL
    obtain ⟨hx, hb, hml, hr, hlk, hown, hts, hKK, hStr, hbs⟩ := id C
    exact lv_imul hx hb hd (hK _ _ _ h p l e s m args below meth c E C H locs ls hP hD hS hL)
  · rename_i y0 x0 st
    obtain rfl : n = 1 := of_decide_eq_true hn
    intro p l e s m args below meth c E C H locs ls hP hD hS hL
    obtain ⟨hx, hb, hml, hr, hlk, hown, hts, hKK, hStr, hbs⟩ := id C
    exact lv_iand hx hb hd (hK _ _ _ h p l e s m args below meth c E C H locs ls hP hD hS hL)
  · rename_i y0 x0 st
    obtain rfl : n = 1 := of_decide_eq_true hn
    intro p l e s m args below meth c E C H locs ls hP hD hS hL
    obtain ⟨hx, hb, hml, hr, hlk, hown, hts, hKK, hStr, hbs⟩ := id C
    exact lv_ior hx hb hd (hK _ _ _ h p l e s m args below meth c E C H locs ls hP hD hS hL)
  · rename_i y0 x0 st
    obtain rfl : n = 1 := of_decide_eq_true hn
    intro p l e s m args below meth c E C H locs ls hP hD hS hL
    obtain ⟨hx, hb, hml, hr, hlk, hown, hts, hKK, hStr, hbs⟩ := id C
    exact lv_ixor hx hb hd (hK _ _ _ h p l e s m args below meth c E C H locs ls hP hD hS hL)
  · rename_i y0 x0 st
    obtain rfl : n = 1 := of_decide_eq_true hn
    intro p l e s m args below meth c E C H locs ls hP hD hS hL
    obtain ⟨hx, hb, hml, hr, hlk, hown, hts, hKK, hStr, hbs⟩ := id C
    exact lv_ishl hx hb hd (hK _ _ _ h p l e s m args below meth c E C H locs ls hP hD hS hL)
  · rename_i y0 x0 st
    obtain rfl : n = 1 := of_decide_eq_true hn
    intro p l e s m args below meth c E C H locs ls hP hD hS hL
    obtain ⟨hx, hb, hml, hr, hlk, hown, hts, hKK, hStr, hbs⟩ := id C
    exact lv_ishr hx hb hd (hK _ _ _ h p l e s m args below meth c E C H locs ls hP hD hS hL)
  · rename_i y0 x0 st
    obtain rfl : n = 1 := of_decide_eq_true hn
    intro p l e s m args below meth c E C H locs ls hP hD hS hL
    obtain ⟨hx, hb, hml, hr, hlk, hown, hts, hKK, hStr, hbs⟩ := id C
    exact lv_iushr hx hb hd rfl (hK _ _ _ h p l e s m args below meth c E C H locs ls hP hD hS hL)
  · rename_i y0 x0 st
    obtain rfl : n = 1 := of_decide_eq_true hn
    obtain ⟨h1, h⟩ := h
    intro p l e s m args below meth c E C H locs ls hP hD hS hL
    obtain ⟨hx, hb, hml, hr, hlk, hown, hts, hKK, hStr, hbs⟩ := id C
    exact lv_idiv hx hb hd h1 (hK _ _ _ h p l e s m args below meth c E C H locs ls hP hD hS hL)
  · rename_i y0 x0 st
    obtain rfl : n = 1 := of_decide_eq_true hn
    obtain ⟨h1, h⟩ := h
    intro p l e s m args below meth c E C H locs ls hP hD hS hL
    obtain ⟨hx, hb, hml, hr, hlk, hown, hts, hKK, hStr, hbs⟩ := id C
    exact lv_irem hx hb hd h1 (hK _ _ _ h p l e s m args below meth c E C H locs ls hP hD hS hL)
  · rename_i x0 st
    obtain rfl : n = 1 := of_decide_eq_true hn
    intro p l e s m args below meth c E C H locs ls hP hD hS hL
    obtain ⟨hx, hb, hml, hr, hlk, hown, hts, hKK, hStr, hbs⟩ := id C
    exact lv_ineg hx hb hd (hK _ _ _ h p l e s m args below meth c E C H locs ls hP hD hS hL)
  · rename_i y0 x0 st
    obtain rfl : n = 1 := of_decide_eq_true hn
    intro p l e s m args below meth c E C H locs ls hP hD hS hL
    obtain ⟨hx, hb, hml, hr, hlk, hown, hts, hKK, hStr, hbs⟩ := id C
    exact lv_ladd hx hb hd (hK _ _ _ h p l e s m args below meth c E C H locs ls hP hD hS hL)
  · rename_i y0 x0 st
    obtain rfl : n = 1 := of_decide_eq_true hn
    intro p l e s m args below meth c E C H locs ls hP hD hS hL
    obtain ⟨hx, hb, hml, hr, hlk, hown, hts, hKK, hStr, hbs⟩ := id C
    exact lv_lsub hx hb hd (hK _ _ _ h p l e s m args below meth c E C H locs ls hP hD hS hL)
  · rename_i y0 x0 st
    obtain rfl : n = 1 := of_decide_eq_true hn
    intro p l e s m args below meth c E C H locs ls hP hD hS hL
    obtain ⟨hx, hb, hml, hr, hlk, hown, hts, hKK, hStr, hbs⟩ := id C
    exact lv_lmul hx hb hd (hK _ _ _ h p l e s m args below meth c E C H locs ls hP hD hS hL)
  · rename_i y0 x0 st
    obtain rfl : n = 1 := of_decide_eq_true hn
    intro p l e s m args below meth c E C H locs ls hP hD hS hL
    obtain ⟨hx, hb, hml, hr, hlk, hown, hts, hKK, hStr, hbs⟩ := id C
    exact lv_land hx hb hd (hK _ _ _ h p l e s m args below meth c E C H locs ls hP hD hS hL)
  · rename_i y0 x0 st
    obtain rfl : n = 1 := of_decide_eq_true hn
    intro p l e s m args below meth c E C H locs ls hP hD hS hL
    obtain ⟨hx, hb, hml, hr, hlk, hown, hts, hKK, hStr, hbs⟩ := id C
    exact lv_lor hx hb hd (hK _ _ _ h p l e s m args below meth c E C H locs ls hP hD hS hL)
  · rename_i y0 x0 st
    obtain rfl : n = 1 := of_decide_eq_true hn
    obtain ⟨h1, h⟩ := h
    intro p l e s m args below meth c E C H locs ls hP hD hS hL
    obtain ⟨hx, hb, hml, hr, hlk, hown, hts, hKK, hStr, hbs⟩ := id C
    exact lv_ldiv hx hb hd h1 (hK _ _ _ h p l e s m args below meth c E C H locs ls hP hD hS hL)
  · rename_i y0 x0 st
    obtain rfl : n = 1 := of_decide_eq_true hn
    obtain ⟨h1, h⟩ := h
    intro p l e s m args below meth c E C H locs ls hP hD hS hL
    obtain ⟨hx, hb, hml, hr, hlk, hown, hts, hKK, hStr, hbs⟩ := id C
    exact lv_lrem hx hb hd h1 (hK _ _ _ h p l e s m args below meth c E C H locs ls hP hD hS hL)
  · rename_i y0 x0 st
    obtain rfl : n = 1 := of_decide_eq_true hn
    intro p l e s m args below meth c E C H locs ls hP hD hS hL
    obtain ⟨hx, hb, hml, hr, hlk, hown, hts, hKK, hStr, hbs⟩ := id C
    exact lv_lshl hx hb hd rfl (hK _ _ _ h p l e s m args below meth c E C H locs ls hP hD hS hL)
  · rename_i y0 x0 st
    obtain rfl : n = 1 := of_decide_eq_true hn
    intro p l e s m args below meth c E C H locs ls hP hD hS hL
    obtain ⟨hx, hb, hml, hr, hlk, hown, hts, hKK, hStr, hbs⟩ := id C
    exact W.lcmp hx hb hd (hK _ _ _ h p l e s m args below meth c E C H locs ls hP hD hS hL)
  · rename_i x0 st
    obtain rfl : n = 1 := of_decide_eq_true hn
    intro p l e s m args below meth c E C H locs ls hP hD hS hL
    obtain ⟨hx, hb, hml, hr, hlk, hown, hts, hKK, hStr, hbs⟩ := id C
    exact lv_i2l hx hb hd rfl (hK _ _ _ h p l e s m args below meth c E C H locs ls hP hD hS hL)
  · rename_i x0 st
    obtain rfl : n = 1 := of_decide_eq_true hn
    intro p l e s m args below meth c E C H locs ls hP hD hS hL
    obtain ⟨hx, hb, hml, hr, hlk, hown, hts, hKK, hStr, hbs⟩ := id C
    exact lv_l2i hx hb hd rfl (hK _ _ _ h p l e s m args below meth c E C H locs ls hP hD hS hL)
  · rename_i x0 st
    obtain rfl : n = 1 := of_decide_eq_true hn
    intro p l e s m args below meth c E C H locs ls hP hD hS hL
    obtain ⟨hx, hb, hml, hr, hlk, hown, hts, hKK, hStr, hbs⟩ := id C
    exact lv_i2b hx hb hd rfl (hK _ _ _ h p l e s m args below meth c E C H locs ls hP hD hS hL)
  · rename_i x0 st
    obtain rfl : n = 1 := of_decide_eq_true hn
    intro p l e s m args below meth c E C H locs ls hP hD hS hL
    obtain ⟨hx, hb, hml, hr, hlk, hown, hts, hKK, hStr, hbs⟩ := id C
    exact lv_i2s hx hb hd rfl (hK _ _ _ h p l e s m args below meth c E C H locs ls hP hD hS hL)
  · rename_i v0 st
    obtain rfl : n = 1 := of_decide_eq_true hn
    obtain ⟨h1, h⟩ := h
    intro p l e s m args below meth c E C H locs ls hP hD hS hL
    obtain ⟨hx, hb, hml, hr, hlk, hown, hts, hKK, hStr, hbs⟩ := id C
    exact lv_dup hx hb hd (by rw [qTV_cat, h1]; rfl) (hK _ _ _ h p l e s m args below meth c E C H locs ls hP hD hS hL)
  · rename_i v0 st
    obtain rfl : n = 1 := of_decide_eq_true hn
    obtain ⟨h1, h⟩ := h
    intro p l e s m args below meth c E C H locs ls hP hD hS hL
    obtain ⟨hx, hb, hml, hr, hlk, hown, hts, hKK, hStr, hbs⟩ := id C
    exact lv_pop hx hb hd (by rw [qTV_cat, h1]; rfl) (hK _ _ _ h p l e s m args below meth c E C H locs ls hP hD hS hL)
  · rename_i v0 u0 st
    obtain rfl : n = 1 := of_decide_eq_true hn
    obtain ⟨h1, h2, h⟩ := h
    intro p l e s m args below meth c E C H locs ls hP hD hS hL
    obtain ⟨hx, hb, hml, hr, hlk, hown, hts, hKK, hStr, hbs⟩ := id C
    exact lv_dup2_11 hx hb hd (by rw [qTV_cat, h1]; rfl) (by rw [qTV_cat, h2]; rfl) (hK _ _ _ h p l e s m args below meth c E C H locs ls hP hD hS hL)
  · rename_i st
    obtain rfl : n = 1 := of_decide_eq_true hn
    intro p l e s m args below meth c E C H locs ls hP hD hS hL
    obtain ⟨hx, hb, hml, hr, hlk, hown, hts, hKK, hStr, hbs⟩ := id C
    exact lv_null hx hb hd (hK _ _ _ h p l e s m args below meth c E C H locs ls hP hD hS hL)
  · rename_i o0 t0 x0 st
    obtain rfl : n = 3 := of_decide_eq_true hn
    intro p l e s m args below meth c E C H locs ls hP hD hS hL
    obtain ⟨hx, hb, hml, hr, hlk, hown, hts, hKK, hStr, hbs⟩ := id C
    exact lv_if_eq hx hb hd (of_decide_eq_true hc) (fun c1 => hJ _ _ _ _ (h.1 c1) p l e s m args below meth c E C H locs ls hP hD hS hL) (fun c1 => hK _ _ _ (h.2 c1) p l e s m args below meth c E C H locs ls hP hD hS hL)
  · rename_i o0 t0 y0 x0 st
    obtain rfl : n = 3 := of_decide_eq_true hn
    intro p l e s m args below meth c E C H locs ls hP hD hS hL
    obtain ⟨hx, hb, hml, hr, hlk, hown, hts, hKK, hStr, hbs⟩ := id C
    exact lv_icmp_eq hx hb hd (of_decide_eq_true hc) (fun c1 => hJ _ _ _ _ (h.1 c1) p l e s m args below meth c E C H locs ls hP hD hS hL) (fun c1 => hK _ _ _ (h.2 c1) p l e s m args below meth c E C H locs ls hP hD hS hL)
  · rename_i o0 t0 x0 st
    obtain rfl : n = 3 := of_decide_eq_true hn
    intro p l e s m args below meth c E C H locs ls hP hD hS hL
    obtain ⟨hx, hb, hml, hr, hlk, hown, hts, hKK, hStr, hbs⟩ := id C
    exact lv_if_ne hx hb hd (of_decide_eq_true hc) (fun c1 => hJ _ _ _ _ (h.1 c1) p l e s m args below meth c E C H locs ls hP hD hS hL) (fun c1 => hK _ _ _ (h.2 c1) p l e s m args below meth c E C H locs ls hP hD hS hL)
  · rename_i o0 t0 y0 x0 st
    obtain rfl : n = 3 := of_decide_eq_true hn
    intro p l e s m args below meth c E C H locs ls hP hD hS hL
    obtain ⟨hx, hb, hml, hr, hlk, hown, hts, hKK, hStr, hbs⟩ := id C
    exact lv_icmp_ne hx hb hd (of_decide_eq_true hc) (fun c1 => hJ _ _ _ _ (h.1 c1) p l e s m args below meth c E C H locs ls hP hD hS hL) (fun c1 => hK _ _ _ (h.2 c1) p l e s m args below meth c E C H locs ls hP hD hS hL)
  · rename_i o0 t0 x0 st
    obtain rfl : n = 3 := of_decide_eq_true hn
    intro p l e s m args below meth c E C H locs ls hP hD hS hL
    obtain ⟨hx, hb, hml, hr, hlk, hown, hts, hKK, hStr, hbs⟩ := id C
    exact lv_if_lt hx hb hd (of_decide_eq_true hc) (fun c1 => hJ _ _ _ _ (h.1 c1) p l e s m args below meth c E C H locs ls hP hD hS hL) (fun c1 => hK _ _ _ (h.2 c1) p l e s m args below meth c E C H locs ls hP hD hS hL)
  · rename_i o0 t0 y0 x0 st
    obtain rfl : n = 3 := of_decide_eq_true hn
    intro p l e s m args below meth c E C H locs ls hP hD hS hL
    obtain ⟨hx, hb, hml, hr, hlk, hown, hts, hKK, hStr, hbs⟩ := id C
    exact lv_icmp_lt hx hb hd (of_decide_eq_true hc) (fun c1 => hJ _ _ _ _ (h.1 c1) p l e s m args below meth c E C H locs ls hP hD hS hL) (fun c1 => hK _ _ _ (h.2 c1) p l e s m args below meth c E C H locs ls hP hD hS hL)
  · rename_i o0 t0 x0 st
    obtain rfl : n = 3 := of_decide_eq_true hn
    intro p l e s m args below meth c E C H locs ls hP hD hS hL
    obtain ⟨hx, hb, hml, hr, hlk, hown, hts, hKK, hStr, hbs⟩ := id C
    exact lv_if_ge hx hb hd (of_decide_eq_true hc) (fun c1 => hJ _ _ _ _ (h.1 c1) p l e s m args below meth c E C H locs ls hP hD hS hL) (fun c1 => hK _ _ _ (h.2 c1) p l e s m args below meth c E C H locs ls hP hD hS hL)
  · rename_i o0 t0 y0 x0 st
    obtain rfl : n = 3 := of_decide_eq_true hn
    intro p l e s m args below meth c E C H locs ls hP hD hS hL
    obtain ⟨hx, hb, hml, hr, hlk, hown, hts, hKK, hStr, hbs⟩ := id C
    exact lv_icmp_ge hx hb hd (of_decide_eq_true hc) (fun c1 => hJ _ _ _ _ (h.1 c1) p l e s m args below meth c E C H locs ls hP hD hS hL) (fun c1 => hK _ _ _ (h.2 c1) p l e s m args below meth c E C H locs ls hP hD hS hL)
  · rename_i o0 t0 x0 st
    obtain rfl : n = 3 := of_decide_eq_true hn
    intro p l e s m args below meth c E C H locs ls hP hD hS hL
    obtain ⟨hx, hb, hml, hr, hlk, hown, hts, hKK, hStr, hbs⟩ := id C
    exact lv_if_gt hx hb hd (of_decide_eq_true hc) (fun c1 => hJ _ _ _ _ (h.1 c1) p l e s m args below meth c E C H locs ls hP hD hS hL) (fun c1 => hK _ _ _ (h.2 c1) p l e s m args below meth c E C H locs ls hP hD hS hL)
  · rename_i o0 t0 y0 x0 st
    obtain rfl : n = 3 := of_decide_eq_true hn
    intro p l e s m args below meth c E C H locs ls hP hD hS hL
    obtain ⟨hx, hb, hml, hr, hlk, hown, hts, hKK, hStr, hbs⟩ := id C
    exact lv_icmp_gt hx hb hd (of_decide_eq_true hc) (fun c1 => hJ _ _ _ _ (h.1 c1) p l e s m args below meth c E C H locs ls hP hD hS hL) (fun c1 => hK _ _ _ (h.2 c1) p l e s m args below meth c E C H locs ls hP hD hS hL)
  · rename_i o0 t0 x0 st
    obtain rfl : n = 3 := of_decide_eq_true hn
    intro p l e s m args below meth c E C H locs ls hP hD hS hL
    obtain ⟨hx, hb, hml, hr, hlk, hown, hts, hKK, hStr, hbs⟩ := id C
    exact lv_if_le hx hb hd (of_decide_eq_true hc) (fun c1 => hJ _ _ _ _ (h.1 c1) p l e s m args below meth c E C H locs ls hP hD hS hL) (fun c1 => hK _ _ _ (h.2 c1) p l e s m args below meth c E C H locs ls hP hD hS hL)
  · rename_i o0 t0 y0 x0 st
    obtain rfl : n = 3 := of_decide_eq_true hn
    intro p l e s m args below meth c E C H locs ls hP hD hS hL
    obtain ⟨hx, hb, hml, hr, hlk, hown, hts, hKK, hStr, hbs⟩ := id C
    exact lv_icmp_le hx hb hd (of_decide_eq_true hc) (fun c1 => hJ _ _ _ _ (h.1 c1) p l e s m args below meth c E C H locs ls hP hD hS hL) (fun c1 => hK _ _ _ (h.2 c1) p l e s m args below meth c E C H locs ls hP hD hS hL)
  · rename_i o0 t0 st
    obtain rfl : n = 3 := of_decide_eq_true hn
    intro p l e s m args below meth c E C H locs ls hP hD hS hL
    obtain ⟨hx, hb, hml, hr, hlk, hown, hts, hKK, hStr, hbs⟩ := id C
    exact lv_goto hx hb hd (of_decide_eq_true hc) (hJ _ _ _ _ h p l e s m args below meth c E C H locs ls hP hD hS hL)
  · rename_i o0 t0 x0 st
    obtain rfl : n = 3 := of_decide_eq_true hn
    intro p l e s m args below meth c E C H locs ls hP hD hS hL
    obtain ⟨hx, hb, hml, hr, hlk, hown, hts, hKK, hStr, hbs⟩ := id C
    exact lv_ifnull hx hb hd (hK _ _ _ h p l e s m args below meth c E C H locs ls hP hD hS hL)
  · rename_i o0 t0 x0 st
    obtain rfl : n = 3 := of_decide_eq_true hn
    intro p l e s m args below meth c E C H locs ls hP hD hS hL
    obtain ⟨hx, hb, hml, hr, hlk, hown, hts, hKK, hStr, hbs⟩ := id C
    exact lv_ifnonnull hx hb hd (of_decide_eq_true hc) (hJ _ _ _ _ h p l e s m args below meth c E C H locs ls hP hD hS hL)
  · rename_i e0 a0 b0 os t0 ts x0 st
    have hc : (qjmp pc e0 t0 && decide (os.toList.map (fun o => (pc : Int) + o) = ts.map (fun t : Nat => (t : Int))) && decide (b0 = a0 + (os.toList.length : Int) - 1)) = true := hc
    simp only [qjmp, Bool.and_eq_true, decide_eq_true_eq] at hc
    obtain ⟨⟨hc1, hc2⟩, hc3⟩ := hc
    intro p l e s m args below meth c E C H locs ls hP hD hS hL
    obtain ⟨hx, hb, hml, hr, hlk, hown, hts, hKK, hStr, hbs⟩ := id C
    by_cases hout : x0.toInt < a0 ∨ b0 < x0.toInt
    · exact lv_tableOut hx hb hd hout hc1 (hJ _ _ _ _ (h.1 hout) p l e s m args below meth c E C H locs ls hP hD hS hL)
    · have g1 : ¬ x0.toInt < a0 := fun q => hout (Or.inl q)
      have g2 : ¬ b0 < x0.toInt := fun q => hout (Or.inr q)
      have hj : (x0.toInt - a0).toNat < os.toList.length := by omega
      have e1 : os.toList[(x0.toInt - a0).toNat]? = some os.toList[(x0.toInt - a0).toNat] := List.getElem?_eq_getElem hj
      have e2 : (os.toList.map (fun o => (pc : Int) + o))[(x0.toInt - a0).toNat]? = some ((pc : Int) + os.toList[(x0.toInt - a0).toNat]) := by rw [List.getElem?_map, e1]; rfl
      rw [hc2, List.getElem?_map] at e2
      obtain ⟨t1, e3, e4⟩ := Option.map_eq_some_iff.mp e2
      exact lv_tableIn hx hb hd g1 g2 (by rw [← Array.getElem?_toList]; exact e1) e4.symm (hJ _ _ _ _ (qsl_at ts a0 _ t1 h.2 e3 (by omega)) p l e s m args below meth c E C H locs ls hP hD hS hL)
  · rename_i n0 c0 k0 h0 f0 a0 st
    obtain rfl : n = 3 := of_decide_eq_true hn
    have hc : (decide (c0 < 13) && decide (k0 < qnf c0) && decide (f0 = qft c0 k0) && decide (f0 ≠ 9) && qIs h0 (.fieldLink (qCN (qMT k).2.2.2.2.1) n0 (qCN c0) (qTF c0 k0).2.1 (qTF c0 k0).2.2.1) && decide ((qTF c0 k0).1 = qCN c0)) = true := hc
    simp only [Bool.and_eq_true, decide_eq_true_eq] at hc
    obtain ⟨⟨⟨⟨⟨c1, c2⟩, rfl⟩, -⟩, c5⟩, c6⟩ := hc
    obtain ⟨h1, h⟩ := h
    intro p l e s m args below meth c E C H locs ls hP hD hS hL
    obtain ⟨hx, hb, hml, hr, hlk, hown, hts, hKK, hStr, hbs⟩ := id C
    exact va_get (D := E.1) (ci := c0) (C := qCN c0) (T := qTF c0) (N := qnf c0) (ref := qCN c0) (v := qfv E σ c0 a0 k0) hx hb hts (qws_in c0 c1) hown hKK hP a0 ((qws_at E σ (qKd_lt (Or.inl (by omega)))).trans (by rw [qent_obj E σ h1])) (qcl_at c0 c1) k0 c2 (hts _ (qIs_in c5)) (fun x hx => by rw [c6] at hx; exact hx) (by simp [c2]) hd (hK _ _ _ h p l e s m args below meth c E C H locs ls hP hD hS hL)
  · rename_i n0 c0 k0 h0 f0 x0 a0 st
    obtain rfl : n = 3 := of_decide_eq_true hn
    have hc : (decide (c0 < 13) && decide (k0 < qnf c0) && decide (f0 = qft c0 k0) && decide (f0 ≠ 9) && qIs h0 (.fieldLink (qCN (qMT k).2.2.2.2.1) n0 (qCN c0) (qTF c0 k0).2.1 (qTF c0 k0).2.2.1) && decide ((qTF c0 k0).1 = qCN c0) && (decide (f0 = 2) || decide ((qTF c0 k0).2.2.2 = false))) = true := hc
    simp only [Bool.and_eq_true, Bool.or_eq_true, decide_eq_true_eq] at hc
    obtain ⟨⟨⟨⟨⟨⟨c1, c2⟩, rfl⟩, -⟩, c5⟩, c6⟩, c7⟩ := hc
    obtain ⟨h0f, h1, h⟩ := h
    have c8 : (qTF c0 k0).2.2.2 = false := c7.resolve_left (by omega)
    have c9 : narrow (qTy c0 k0) (.int x0) = .int x0 ∧ fits (qTy c0 k0) (.int x0) = true := by
      rcases h0f with hf | ⟨hf, rfl | rfl⟩
      · rw [qft_int hf]; exact ⟨rfl, rfl⟩
      · rw [qft_bool hf]; exact ⟨rfl, rfl⟩
      · rw [qft_bool hf]; exact ⟨rfl, rfl⟩
    have hf : qft c0 k0 = 0 ∨ qft c0 k0 = 3 := h0f.imp id And.left
    intro p l e s m args below meth c E C H locs ls hP hD hS hL
    obtain ⟨hx, hb, hml, hr, hlk, hown, hts, hKK, hStr, hbs⟩ := id C
    refine va_put (D := E.1) (ci := c0) (v := .int x0) (ty := qTy c0 k0) (C := qCN c0) (T := qTF c0) (N := qnf c0) (ref := qCN c0) hx hb hts (qws_in c0 c1) (qTy c0) (qty_ok c0 c1) (qnm_ok c0 c1) hown hKK hP hD hS a0 ((qws_at E σ (qKd_lt (Or.inl (by omega)))).trans (by rw [qent_obj E σ h1])) (qcl_at c0 c1) k0 c2 (hts _ (qIs_in c5)) (fun x hx => by rw [c6] at hx; exact hx) c8 (qty_ok c0 c1 k0 c2) c9.1 c9.2 (by simpa using c2) hd (fun H1 locs1 hP1 hD1 hS1 => ?_)
    rw [qent_wiO E σ h1 hf, qws_set E (qent_wi E σ)] at hP1 hD1
    exact hK _ _ _ h p l e s m args below meth c E C H1 locs1 ls hP1 hD1 hS1 hL
  · rename_i n0 c0 k0 h0 f0 x0 a0 st
    obtain rfl : n = 3 := of_decide_eq_true hn
    have hc : (decide (c0 < 13) && decide (k0 < qnf c0) && decide (f0 = qft c0 k0) && decide (f0 ≠ 9) && qIs h0 (.fieldLink (qCN (qMT k).2.2.2.2.1) n0 (qCN c0) (qTF c0 k0).2.1 (qTF c0 k0).2.2.1) && decide ((qTF c0 k0).1 = qCN c0) && (decide (f0 = 2) || decide ((qTF c0 k0).2.2.2 = false))) = true := hc
    simp only [Bool.and_eq_true, Bool.or_eq_true, decide_eq_true_eq] at hc
    obtain ⟨⟨⟨⟨⟨⟨c1, c2⟩, rfl⟩, -⟩, c5⟩, c6⟩, c7⟩ := hc
    obtain ⟨h0f, h1, h⟩ := h
    have c8 : (qTF c0 k0).2.2.2 = false := c7.resolve_left (by omega)
    have c9 : narrow (qTy c0 k0) (.long x0) = .long x0 ∧ fits (qTy c0 k0) (.long x0) = true := by
      rw [qft_long h0f]; exact ⟨rfl, rfl⟩
    have hf := h0f
    intro p l e s m args below meth c E C H locs ls hP hD hS hL
    obtain ⟨hx, hb, hml, hr, hlk, hown, hts, hKK, hStr, hbs⟩ := id C
    refine va_put (D := E.1) (ci := c0) (v := .long x0) (ty := qTy c0 k0) (C := qCN c0) (T := qTF c0) (N := qnf c0) (ref := qCN c0) hx hb hts (qws_in c0 c1) (qTy c0) (qty_ok c0 c1) (qnm_ok c0 c1) hown hKK hP hD hS a0 ((qws_at E σ (qKd_lt (Or.inl (by omega)))).trans (by rw [qent_obj E σ h1])) (qcl_at c0 c1) k0 c2 (hts _ (qIs_in c5)) (fun x hx => by rw [c6] at hx; exact hx) c8 (qty_ok c0 c1 k0 c2) c9.1 c9.2 (by simpa using c2) hd (fun H1 locs1 hP1 hD1 hS1 => ?_)
    rw [qent_wlO E σ h1 hf, qws_set E (qent_wl E σ)] at hP1 hD1
    exact hK _ _ _ h p l e s m args below meth c E C H1 locs1 ls hP1 hD1 hS1 hL
  · rename_i i0 a0 st
    obtain rfl : n = 1 := of_decide_eq_true hn
    obtain ⟨h1, h2, h⟩ := h
    intro p l e s m args below meth c E C H locs ls hP hD hS hL
    obtain ⟨hx, hb, hml, hr, hlk, hown, hts, hKK, hStr, hbs⟩ := id C
    exact va_iald (D := E.1) hx hb hKK hP a0 0 ((qws_at E σ (qKd_lt (Or.inr (by have := h2.2; omega)))).trans (by rw [qent_i E σ h1 (by omega)])) rfl (qin_vp h2) hd (hK _ _ _ h p l e s m args below meth c E C H locs ls hP hD hS hL)
  · rename_i i0 a0 st
    obtain rfl : n = 1 := of_decide_eq_true hn
    obtain ⟨h1, h2, h⟩ := h
    intro p l e s m args below meth c E C H locs ls hP hD hS hL
    obtain ⟨hx, hb, hml, hr, hlk, hown, hts, hKK, hStr, hbs⟩ := id C
    exact va_lald (D := E.1) hx hb hKK hP a0 1 ((qws_at E σ (qKd_lt (Or.inr (by have := h2.2; omega)))).trans (by rw [qent_l E σ h1])) rfl (qin_vp h2) hd (hK _ _ _ h p l e s m args below meth c E C H locs ls hP hD hS hL)
  · rename_i i0 a0 st
    obtain rfl : n = 1 := of_decide_eq_true hn
    obtain ⟨h1, h2, h⟩ := h
    intro p l e s m args below meth c E C H locs ls hP hD hS hL
    obtain ⟨hx, hb, hml, hr, hlk, hown, hts, hKK, hStr, hbs⟩ := id C
    rcases h1 with h1 | h1
    · exact va_bald (D := E.1) hx hb hKK hP a0 2 ((qws_at E σ (qKd_lt (Or.inl (by omega)))).trans (by rw [qent_i E σ h1 (by omega)])) rfl (qin_vp h2) hd (hK _ _ _ h p l e s m args below meth c E C H locs ls hP hD hS hL)
    · exact va_zald (D := E.1) hx hb hKK hP a0 3 ((qws_at E σ (qKd_lt (Or.inl (by omega)))).trans (by rw [qent_i E σ h1 (by omega)])) rfl (qin_vp h2) hd (hK _ _ _ h p l e s m args below meth c E C H locs ls hP hD hS hL)
  · rename_i i0 a0 st
    obtain rfl : n = 1 := of_decide_eq_true hn
    obtain ⟨h1, h2, h⟩ := h
    intro p l e s m args below meth c E C H locs ls hP hD hS hL
    obtain ⟨hx, hb, hml, hr, hlk, hown, hts, hKK, hStr, hbs⟩ := id C
    have ev : va_rf ((qRf a0 i0.toNatClampNeg).map E.2.1) = qTV E.2.1 (.inr (.inr (qRf a0 i0.toNatClampNeg))) := by cases qRf a0 i0.toNatClampNeg <;> rfl
    rcases h1 with h1 | h1
    · refine va_aldq (D := E.1) hx hb hKK hP a0 4 ((qws_at E σ (qKd_lt (Or.inl (by omega)))).trans (by rw [qent_r E σ h1 (by omega)])) rfl (qin_vp h2) hd ?_
      rw [ev]
      exact hK _ _ _ h p l e s m args below meth c E C H locs ls hP hD hS hL
    · refine va_aldq (D := E.1) hx hb hKK hP a0 5 ((qws_at E σ (qKd_lt (Or.inl (by omega)))).trans (by rw [qent_r E σ h1 (by omega)])) rfl (qin_vp h2) hd ?_
      rw [ev]
      exact hK _ _ _ h p l e s m args below meth c E C H locs ls hP hD hS hL
  · rename_i x0 i0 a0 st
    obtain rfl : n = 1 := of_decide_eq_true hn
    obtain ⟨h1, h2, h⟩ := h
    intro p l e s m args below meth c E C H locs ls hP hD hS hL
    obtain ⟨hx, hb, hml, hr, hlk, hown, hts, hKK, hStr, hbs⟩ := id C
    refine va_iast (D := E.1) hx hb hKK hP hD hS a0 0 ((qws_at E σ (qKd_lt (Or.inr (by have := h2.2; omega)))).trans (by rw [qent_i E σ h1 (by omega)])) rfl (qin_vp h2) hd (fun H1 locs1 hP1 hD1 hS1 => ?_)
    have ee : (Sum.inl (E.2.2.1 0, (qKd a0).2, .inl (upd (σ.1 a0) i0.toNatClampNeg x0)) : va_E) = qent E (qwi σ a0 i0.toNatClampNeg x0) a0 := by
      rw [qent_i E _ h1 (by omega)]
      have : (qwi σ a0 i0.toNatClampNeg x0).1 a0 = upd (σ.1 a0) i0.toNatClampNeg x0 := by funext j; simp [qwi, upd]
      rw [this]
    rw [ee, qws_set E (qent_wi E σ)] at hP1 hD1
    exact hK _ _ _ h p l e s m args below meth c E C H1 locs1 ls hP1 hD1 hS1 hL
  · rename_i x0 i0 a0 st
    obtain rfl : n = 1 := of_decide_eq_true hn
    obtain ⟨h1, h2, h⟩ := h
    intro p l e s m args below meth c E C H locs ls hP hD hS hL
    obtain ⟨hx, hb, hml, hr, hlk, hown, hts, hKK, hStr, hbs⟩ := id C
    refine va_last (D := E.1) hx hb hKK hP hD hS a0 1 ((qws_at E σ (qKd_lt (Or.inr (by have := h2.2; omega)))).trans (by rw [qent_l E σ h1])) rfl (qin_vp h2) hd (fun H1 locs1 hP1 hD1 hS1 => ?_)
    have ee : (Sum.inl (E.2.2.1 1, (qKd a0).2, .inr (.inl (vp_updL (σ.2 a0) i0.toNatClampNeg x0))) : va_E) = qent E (qwl σ a0 i0.toNatClampNeg x0) a0 := by
      rw [qent_l E _ h1]
      have : (qwl σ a0 i0.toNatClampNeg x0).2 a0 = vp_updL (σ.2 a0) i0.toNatClampNeg x0 := by funext j; simp [qwl, vp_updL]
      rw [this]
    rw [ee, qws_set E (qent_wl E σ)] at hP1 hD1
    exact hK _ _ _ h p l e s m args below meth c E C H1 locs1 ls hP1 hD1 hS1 hL
  · rename_i x0 i0 a0 st
    obtain rfl : n = 1 := of_decide_eq_true hn
    intro p l e s m args below meth c E C H locs ls hP hD hS hL
    obtain ⟨hx, hb, hml, hr, hlk, hown, hts, hKK, hStr, hbs⟩ := id C
    rcases h with ⟨h1, h2, h⟩ | ⟨h1, h2, h3, h⟩
    · refine va_bast (D := E.1) hx hb hKK hP hD hS a0 2 ((qws_at E σ (qKd_lt (Or.inl (by omega)))).trans (by rw [qent_i E σ h1 (by omega)])) rfl (qin_vp h2) hd (fun H1 locs1 hP1 hD1 hS1 => ?_)
      have en : vp_nar .byte x0 = x0.toInt8.toInt32 := rfl
      rw [en] at hP1 hD1
      have ee : (Sum.inl (E.2.2.1 2, (qKd a0).2, .inl (upd (σ.1 a0) i0.toNatClampNeg (x0.toInt8.toInt32))) : va_E) = qent E (qwi σ a0 i0.toNatClampNeg (x0.toInt8.toInt32)) a0 := by
        rw [qent_i E _ h1 (by omega)]
        have : (qwi σ a0 i0.toNatClampNeg (x0.toInt8.toInt32)).1 a0 = upd (σ.1 a0) i0.toNatClampNeg (x0.toInt8.toInt32) := by funext j; simp [qwi, upd]
        rw [this]
      rw [ee, qws_set E (qent_wi E σ)] at hP1 hD1
      exact hK _ _ _ h p l e s m args below meth c E C H1 locs1 ls hP1 hD1 hS1 hL
    · refine va_zast (D := E.1) hx hb hKK hP hD hS a0 3 ((qws_at E σ (qKd_lt (Or.inl (by omega)))).trans (by rw [qent_i E σ h1 (by omega)])) rfl (qin_vp h2) hd (fun H1 locs1 hP1 hD1 hS1 => ?_)
      have en : vp_nar .boolean x0 = x0 := by rcases h3 with rfl | rfl <;> rfl
      rw [en] at hP1 hD1
      have ee : (Sum.inl (E.2.2.1 3, (qKd a0).2, .inl (upd (σ.1 a0) i0.toNatClampNeg (x0))) : va_E) = qent E (qwi σ a0 i0.toNatClampNeg (x0)) a0 := by
        rw [qent_i E _ h1 (by omega)]
        have : (qwi σ a0 i0.toNatClampNeg (x0)).1 a0 = upd (σ.1 a0) i0.toNatClampNeg (x0) := by funext j; simp [qwi, upd]
        rw [this]
      rw [ee, qws_set E (qent_wi E σ)] at hP1 hD1
      exact hK _ _ _ h p l e s m args below meth c E C H1 locs1 ls hP1 hD1 hS1 hL
  · rename_i n0 h0 z0 j0 b0 i0 a0 st
    obtain rfl : n = 3 := of_decide_eq_true hn
    intro p l e s m args below meth c E C H locs ls hP hD hS hL
    obtain ⟨hx, hb, hml, hr, hlk, hown, hts, hKK, hStr, hbs⟩ := id C
    have hsum := qcs_sum E.2.1 st
    have hnf : nativeFrameWords "java/lang/System" "arraycopy" 5 ≤ 20 := by decide +kernel
    rcases h with ⟨h1, h2, h70, h3, h4, h5, h6, h⟩ | ⟨h1, h2, h70, h3, h4, h5, h6, h⟩
    · refine va_copyi (R := qRm d) (D := E.1) hx hb (hml.trans hL.1.symm) hown (hts _ (qIs_in hc)) (hts _ qw_cpyN) (hts _ qw_cpyS) (hts _ qw_sys) hKK hP hD hS a0 b0 0 0 ((qws_at E σ (qKd_lt (Or.inr (Nat.ne_of_gt h70.1)))).trans (by rw [qent_i E σ h1 (by omega)])) ((qws_at E σ (qKd_lt (Or.inr (Nat.ne_of_gt h70.2)))).trans (by rw [qent_i E σ h2 (by omega)])) rfl rfl rfl h3.1 h4.1 h3.2.1 h3.2.2 h4.2.2 (fun _ _ => rfl) h6 (by rw [hsum]; show _ ≤ 64 * d; omega) hd (fun H1 locs1 hP1 hD1 hS1 => ?_)
      have ee : (Sum.inl (E.2.2.1 0, (qKd b0).2, .inl (va_cpy (σ.1 a0) (σ.1 b0) i0.toNatClampNeg j0.toNatClampNeg z0.toNatClampNeg)) : va_E) = qent E (qci σ a0 i0.toNatClampNeg b0 j0.toNatClampNeg z0.toNatClampNeg) b0 := by
        rw [qent_i E _ h2 (by omega)]
        have : (qci σ a0 i0.toNatClampNeg b0 j0.toNatClampNeg z0.toNatClampNeg).1 b0 = va_cpy (σ.1 a0) (σ.1 b0) i0.toNatClampNeg j0.toNatClampNeg z0.toNatClampNeg := by funext j; simp [qci]
        rw [this]
      rw [ee, qws_set E (qent_ci E σ)] at hP1 hD1
      exact hK _ _ _ h p l e s m args below meth c E C H1 locs1 ls hP1 hD1 hS1 hL
    · refine va_copyl (R := qRm d) (D := E.1) hx hb (hml.trans hL.1.symm) hown (hts _ (qIs_in hc)) (hts _ qw_cpyN) (hts _ qw_cpyS) (hts _ qw_sys) hKK hP hD hS a0 b0 1 1 ((qws_at E σ (qKd_lt (Or.inr (Nat.ne_of_gt h70.1)))).trans (by rw [qent_l E σ h1])) ((qws_at E σ (qKd_lt (Or.inr (Nat.ne_of_gt h70.2)))).trans (by rw [qent_l E σ h2])) rfl rfl rfl h3.1 h4.1 h3.2.1 h3.2.2 h4.2.2 (fun _ _ => rfl) h6 (by rw [hsum]; show _ ≤ 64 * d; omega) hd (fun H1 locs1 hP1 hD1 hS1 => ?_)
      have ee : (Sum.inl (E.2.2.1 1, (qKd b0).2, .inr (.inl (va_cpy (σ.2 a0) (σ.2 b0) i0.toNatClampNeg j0.toNatClampNeg z0.toNatClampNeg))) : va_E) = qent E (qcl σ a0 i0.toNatClampNeg b0 j0.toNatClampNeg z0.toNatClampNeg) b0 := by
        rw [qent_l E _ h2]
        have : (qcl σ a0 i0.toNatClampNeg b0 j0.toNatClampNeg z0.toNatClampNeg).2 b0 = va_cpy (σ.2 a0) (σ.2 b0) i0.toNatClampNeg j0.toNatClampNeg z0.toNatClampNeg := by funext j; simp [qcl]
        rw [this]
      rw [ee, qws_set E (qent_cl E σ)] at hP1 hD1
      exact hK _ _ _ h p l e s m args below meth c E C H1 locs1 ls hP1 hD1 hS1 hL
  · rename_i st n0 h0 j0
    obtain rfl : n = 3 := of_decide_eq_true hn
    unfold qmath at h
    intro p l e s m args below meth c E C H locs ls hP hD hS hL
    obtain ⟨hx, hb, hml, hr, hlk, hown, hts, hKK, hStr, hbs⟩ := id C
    split at h
    · rename_i hj
      subst hj
      split at h
      · rename_i x0 st1
        obtain ⟨h1, h2, h⟩ := h
        exact va_mabs (R := qRm d) hx hb (hml.trans hL.1.symm) hown (hts _ (qIs_in hc)) (hts _ qw_absS) (hts _ qw_math) (hts _ qw_absC) h2 (by rw [qcs_sum]; show _ ≤ 64 * d; omega) (Nat.le_refl 0) (Nat.le_refl 0) hd (hK _ _ _ h p l e s m args below meth c E C H locs ls hP hD hS hL)
      · exact h.elim
    · rename_i hj
      split at h
      · rename_i y0 x0 st1
        obtain ⟨h1, h2, h⟩ := h
        by_cases h0 : j0 = 0
        · subst h0
          exact va_mmax (R := qRm d) hx hb (hml.trans hL.1.symm) hown (hts _ (qIs_in hc)) (hts _ qw_maxS) (hts _ qw_math) (hts _ qw_maxC) h2 (by rw [qcs_sum]; show _ ≤ 64 * d; omega) (Nat.le_refl 0) (Nat.le_refl 0) hd (hK _ _ _ h p l e s m args below meth c E C H locs ls hP hD hS hL)
        · by_cases h01 : j0 = 1
          · subst h01
            exact va_mmin (R := qRm d) hx hb (hml.trans hL.1.symm) hown (hts _ (qIs_in hc)) (hts _ qw_minS) (hts _ qw_math) (hts _ qw_minC) h2 (by rw [qcs_sum]; show _ ≤ 64 * d; omega) (Nat.le_refl 0) (Nat.le_refl 0) hd (hK _ _ _ h p l e s m args below meth c E C H locs ls hP hD hS hL)
          · obtain _ | _ | _ | j0 := j0
            · exact absurd rfl h0
            · exact absurd rfl h01
            · exact absurd rfl hj
            · exact absurd (show false = true from hc) (by decide)
      · exact h.elim
  · rename_i st n0 k0 h0 np0 rk0 c0
    obtain rfl : n = 3 := of_decide_eq_true hn
    have hc : (decide (k0 < qML.length) && decide ((qMT k0).1.name ≠ "<init>") && (qMT k0).2.2.2.2.2.2.2.1 && qIs h0 (.methodLink (qCN (qMT k).2.2.2.2.1) n0 (qMT k0).1) && decide (np0 = (qMT k0).2.2.2.2.2.2.1) && decide (c0 = 0)) = true := hc
    simp only [Bool.and_eq_true, decide_eq_true_eq] at hc
    obtain ⟨⟨⟨⟨⟨c1, c2⟩, c3⟩, c4⟩, c5⟩, c6⟩ := hc
    obtain ⟨h1, h2, h3, h⟩ := h
    intro p l e s m args below meth c E C H locs ls hP hD hS hL
    obtain ⟨hx, hb, hml, hr, hlk, hown, hts, hKK, hStr, hbs⟩ := id C
    exact qcall_s ⟨hx, hb, hml, hr, hlk, hown, hts, hKK, hStr, hbs⟩ hP hD hS hL hd c3 c4 c5 h1 h2 h3 h (fun lo st σ hh H1 locs1 ls1 hP1 hD1 hS1 hL1 => hK lo st σ hh p l e s m args below meth c E C H1 locs1 ls1 hP1 hD1 hS1 hL1)
  · rename_i st n0 k0 h0 np0 rk0 c0
    obtain rfl : n = 3 := of_decide_eq_true hn
    have hc : (decide (k0 < qML.length) && decide ((qMT k0).1.name ≠ "<init>") && !(qMT k0).2.2.2.2.2.2.2.1 && qIs h0 (.methodLink (qCN (qMT k).2.2.2.2.1) n0 (qMT k0).1) && decide (np0 = (qMT k0).2.2.2.2.2.2.1 + 1) && decide (c0 = (qMT k0).2.2.2.2.1 + 1)) = true := hc
    simp only [Bool.and_eq_true, Bool.not_eq_true', decide_eq_true_eq] at hc
    obtain ⟨⟨⟨⟨⟨c1, c2⟩, c3⟩, c4⟩, c5⟩, c6⟩ := hc
    obtain ⟨h1, h2, h3, h⟩ := h
    intro p l e s m args below meth c E C H locs ls hP hD hS hL
    obtain ⟨hx, hb, hml, hr, hlk, hown, hts, hKK, hStr, hbs⟩ := id C
    exact qcall_v ⟨hx, hb, hml, hr, hlk, hown, hts, hKK, hStr, hbs⟩ hP hD hS hL hd c3 c4 c5 c6 h1 h2 h3 h (fun lo st σ hh H1 locs1 ls1 hP1 hD1 hS1 hL1 => hK lo st σ hh p l e s m args below meth c E C H1 locs1 ls1 hP1 hD1 hS1 hL1)
  · rename_i z0 x0
    obtain ⟨h0, h⟩ := h
    intro p l e s m args below meth c E C H locs ls hP hD hS hL
    obtain ⟨hx, hb, hml, hr, hlk, hown, hts, hKK, hStr, hbs⟩ := id C
    rcases Q with q | q | q
    rotate_left
    · exact h.elim
    · exact h.elim
    have hc : ((decide (z0 = 0) && decide ((qMT k).2.2.2.1 = some .int)) || (decide (z0 = 1) && decide ((qMT k).2.2.2.1 = some .boolean))) = true := hc
    simp only [Bool.and_eq_true, Bool.or_eq_true, decide_eq_true_eq] at hc
    obtain rfl : n = 1 := of_decide_eq_true hn
    have hq : ∀ t : State, t.heap = H → s.WarmedH t.vm → qQc E (.inl q) args s (.returned (some (.int x0))) t := fun t ht hW => ⟨⟨x0, σ, rfl, h, qWU_of hKK hStr hbs hP hD hS ht hW⟩, hS.F ht⟩
    rcases hc with ⟨rfl, hc9⟩ | ⟨rfl, hc9⟩
    · exact W.iret hx hb (hr.trans hc9) hq hS.2.2 hd hlk
    · refine W.zret (ty := .boolean) hx hb (hr.trans hc9) ?_ hq hS.2.2 hd hlk
      rcases h0 with h0 | ⟨-, rfl | rfl⟩
      · exact absurd h0 (by decide)
      · rfl
      · rfl
  · rename_i x0
    intro p l e s m args below meth c E C H locs ls hP hD hS hL
    obtain ⟨hx, hb, hml, hr, hlk, hown, hts, hKK, hStr, hbs⟩ := id C
    rcases Q with q | q | q
    · exact h.elim
    · obtain rfl : n = 1 := of_decide_eq_true hn
      exact W.lret hx hb (hr.trans (of_decide_eq_true hc)) (fun t ht hW => ⟨⟨x0, σ, rfl, h, qWU_of hKK hStr hbs hP hD hS ht hW⟩, hS.F ht⟩) hS.2.2 hd hlk
    · exact h.elim
  · intro p l e s m args below meth c E C H locs ls hP hD hS hL
    obtain ⟨hx, hb, hml, hr, hlk, hown, hts, hKK, hStr, hbs⟩ := id C
    rcases Q with q | q | q
    · exact h.elim
    · exact h.elim
    · obtain rfl : n = 1 := of_decide_eq_true hn
      exact W.vret hx hb (hr.trans (of_decide_eq_true hc)) (fun t ht hW => ⟨⟨σ, rfl, h, qWU_of hKK hStr hbs hP hD hS ht hW⟩, hS.F ht⟩) hS.2.2 hd hlk
  · exact h.elim
