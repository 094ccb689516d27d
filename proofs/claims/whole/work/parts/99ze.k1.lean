/-! constructors: a world that grows; the rules of the walk -/
def kRES : String := "field by odds boy at pride soft ears quarrel grudge minute dawn yield pitch any when up open now loop end stop"
def kRESb : List Int32 := [102, 105, 101, 108, 100, 32, 98, 121, 32, 111, 100, 100, 115, 32, 98, 111, 121, 32, 97, 116, 32, 112, 114, 105, 100, 101, 32, 115, 111, 102, 116, 32, 101, 97, 114, 115, 32, 113, 117, 97, 114, 114, 101, 108, 32, 103, 114, 117, 100, 103, 101, 32, 109, 105, 110, 117, 116, 101, 32, 100, 97, 119, 110, 32, 121, 105, 101, 108, 100, 32, 112, 105, 116, 99, 104, 32, 97, 110, 121, 32, 119, 104, 101, 110, 32, 117, 112, 32, 111, 112, 101, 110, 32, 110, 111, 119, 32, 108, 111, 111, 112, 32, 101, 110, 100, 32, 115, 116, 111, 112]
/-- constructors that only nest mates may call -/
def kNw (U : State) : Prop := va_Nw (.methodLinkNest RX11 21 yX0_init RX11) U ∧ va_Nw (.methodLinkNest RX11 81 yX9_init RX11) U ∧ va_Nw (.methodLinkNest RX11 88 yX5_init RX11) U ∧ va_Nw (.methodLinkNest RX10 11 yX9_init RX11) U ∧ va_AO RX1 U ∧ va_AO RX9 U
/-- the class's own text constant -/
def kStr (E : qE) (U : State) : Prop := vk_R RX7 57 kRES (E.2.1 1002) U ∧ sW (E.2.1 1002) (E.2.1 1003) kRESb (qA E) U ∧ kNw U
theorem kStr_of {E : qE} {A : Nat → Prop} {s U : State} {H : Heap} {locs : List Loc} (h : kStr E s) (hS : va_S A s.heap H locs) (hAE : ∀ q, A q → qA E q) (hU : U.heap = H) (hW : s.WarmedH U.vm) : kStr E U := by
  subst hU
  have kp : ∀ q : Nat, q < s.heap.size → ¬ qA E q → U.heap[q]? = s.heap[q]? := fun q h1 h2 => hS.2.1 q h1 (fun h => h2 (hAE q h))
  exact ⟨vk_R.warm hW h.1, ⟨(vk_S.moved hW.alike h.2.1.1).kept kp, (va_Z.moved hW.alike h.2.1.2.1).kept kp, (va_Zq.moved hW.alike h.2.1.2.2).kept kp⟩, va_Nw.warmM hW h.2.2.1, va_Nw.warmM hW h.2.2.2.1, va_Nw.warmM hW h.2.2.2.2.1, va_Nw.warmM hW h.2.2.2.2.2.1, va_AO.moved hW.alike h.2.2.2.2.2.2.1, va_AO.moved hW.alike h.2.2.2.2.2.2.2⟩
def kX (k : Nat) (E : qE) (p : Program) (s : State) (m : MethodId) (args : Array Value) (meth : Method) (c : Code) : Prop :=
  p.tables.exec = Jvm.exec ∧ c.code = (qMT k).2.1 ∧ c.maxLocals = (qMT k).2.2.1 ∧ meth.sig.returnType = (qMT k).2.2.2.1 ∧ meth.locks = false ∧ s.vm.findClass (qCN (qMT k).2.2.2.2.1) = some m.cls ∧ (∀ w ∈ qAL, w.before args s = true) ∧ va_K E.1 vwCl (qtys E) s ∧ kStr E s ∧ E.2.2.2 ≤ s.heap.size ∧ meth.name = (qMT k).1.name
/-- what a walk comes to: a world of the kind B -/
def kE (E : qE) (A : Nat → Prop) (B : va_W → Prop) : Array Value → State → Outcome → State → Prop := va_Qv (fun _ : Unit => True) (fun _ t => ∃ w, B w ∧ va_P E.1 vwCl w t.heap ∧ va_D A w) A
def kRm (d mc ms : Nat) : Room := { frames := d, cells := mc, slots := ms, locals := 64 * d }
def kV (k : Nat) (E : qE) (A : Nat → Prop) (B : va_W → Prop) (d mc ms nc ns pc : Nat) (lo : List (Nat × Value)) (st : List Value) (ws : va_W) : Prop :=
  ∀ (p : Program) (l : Launch) (e : Env) (s : State) (m : MethodId) (args : Array Value) (below : List Frame) (meth : Method) (c : Code), kX k E p s m args meth c → (∀ q : Nat, s.heap.size ≤ q → A q) → (∀ q, A q → qA E q) →
  ∀ (H : Heap) (locs : List Loc) (ls : Array Slot), va_P E.1 vwCl ws H → va_D A ws → va_S A s.heap H locs → lv_has ls (qMT k).2.2.1 lo →
  W p l e (kRm d mc ms) s m args below meth c H locs nc ns (MQ below (kE E A B) args s mc ms A) (F0 m pc ls st)
/-- a contract -/
def kC (d k mc ms : Nat) (E : qE) (av : List Value) (w0 : va_W) (B : va_W → Prop) : Prop := ∀ (l : Launch) (sz : Nat), Met l (qMT k).1 (qAW (qMT k)) (kRm d mc ms) (va_Pc av (fun U => U.heap.size = sz ∧ va_P E.1 vwCl w0 U.heap ∧ va_K E.1 vwCl (qtys E) U ∧ va_D (qA E) w0 ∧ kStr E U ∧ E.2.2.2 ≤ sz)) (kE E (va_A w0 sz) B) mc ms (va_A w0 sz)
/-- a method's words -/
def kmk (k : Nat) : Bool :=
  let m := qMT k
  let y := m.1
  let hs := m.2.2.2.2.2.1
  qIs (hs.getD 0 0) (.code y m.2.1 m.2.2.1 m.2.2.2.1) && qIs (hs.getD 1 0) (.initialized y.cls) && decide (y.cls = qCN m.2.2.2.2.1) && decide (y.cls ≠ "java/lang/invoke/MethodHandle" ∧ y.cls ≠ "java/lang/invoke/VarHandle") && plainName y.cls && decide (m.2.2.1 ≤ 40) &&
  decide ((parseMethodDescriptor y.desc).map (fun d => d.parameters.length) = some m.2.2.2.2.2.2.1) && qIs (hs.getD 2 0) (.instanceMethod y)
theorem kmk_s {k : Nat} (h : kmk k = true) : ((((((qIs ((qMT k).2.2.2.2.2.1.getD 0 0) (.code (qMT k).1 (qMT k).2.1 (qMT k).2.2.1 (qMT k).2.2.2.1) = true ∧ qIs ((qMT k).2.2.2.2.2.1.getD 1 0) (.initialized (qMT k).1.cls) = true) ∧ (qMT k).1.cls = qCN (qMT k).2.2.2.2.1) ∧ ((qMT k).1.cls ≠ "java/lang/invoke/MethodHandle" ∧ (qMT k).1.cls ≠ "java/lang/invoke/VarHandle")) ∧ plainName (qMT k).1.cls = true) ∧ (qMT k).2.2.1 ≤ 40) ∧ (parseMethodDescriptor (qMT k).1.desc).map (fun d => d.parameters.length) = some (qMT k).2.2.2.2.2.2.1) ∧ qIs ((qMT k).2.2.2.2.2.1.getD 2 0) (.instanceMethod (qMT k).1) = true := by
  simpa only [kmk, Bool.and_eq_true, decide_eq_true_eq] using h
theorem kAW_in {k : Nat} (h : kmk k = true) : ∀ w ∈ qAW (qMT k), w ∈ qAL := by
  intro w hw
  rcases List.mem_cons.mp hw with rfl | h1
  · exact qIs_in (kmk_s h).1.1.1.1.1.1.1
  · exact h1
theorem kC.of {d k mc ms : Nat} {E : qE} {av : List Value} {w0 : va_W} {B : va_W → Prop} (hk : kmk k = true) (hl : (lg_sl av).length ≤ (qMT k).2.2.1) (h : ∀ A, kV k E A B d mc ms 0 0 0 (lv_args 0 av) [] w0) : kC d k mc ms E av w0 B := by
  intro l sz
  obtain ⟨⟨⟨⟨⟨⟨⟨-, -⟩, m3⟩, -⟩, m5⟩, -⟩, -⟩, -⟩ := kmk_s hk
  refine Met.ofW (cc := (qMT k).2.1) (maxL := (qMT k).2.2.1) (ret := (qMT k).2.2.2.1) m5 rfl ?_
  intro p e s m args below meth c s₁ b hml hv
  obtain ⟨rfl, hsz, hP, hK, hD, hStr, hbs⟩ := hv
  have hts := atoms_spec (ws := qAW (qMT k)) b.pre
  have hown : s.vm.findClass (qCN (qMT k).2.2.2.2.1) = some m.cls := by
    rw [← m3]
    exact findClass_of_methodNamed b.named
  subst hsz
  rw [lg_entry_eq]
  refine h (va_A w0 s.heap.size) p l e s m _ below meth c ⟨b.exec, b.bytes, hml, b.returns, b.notSynchronized, hown, fun w hw => hts w (List.mem_cons_of_mem _ hw), hK, hStr, hbs, (name_of_methodNamed b.named b.method).1⟩ (fun q hq => Or.inr hq) (fun q hq => ?_) s.heap [] _ hP hD.self va_S.rf (lv_entry av hl)
  rcases hq with ⟨i, e, hq⟩ | hq
  · exact hD.2 i (q, e) hq
  · exact Nat.le_trans hbs hq
section KV
variable {k : Nat} {E : qE} {A : Nat → Prop} {B : va_W → Prop} {d mc ms nc ns pc : Nat} {lo : List (Nat × Value)} {st : List Value} {ws : va_W}
theorem kV.al {n : Fin 4} {i a : Nat} (j : Nat) (hd : decode (qMT k).2.1 pc = .ok (.aload_n n, 1)) (hi : (n : Nat) = i) (hj : lo[j]? = some (i, .ref a)) (K : kV k E A B d mc ms nc ns (pc + 1) lo (.ref a :: st) ws) : kV k E A B d mc ms nc ns pc lo st ws := by
  intro p l e s m args below meth c X hA hAE H locs ls hP hD hS hL
  exact lv_aload_n X.1 X.2.1 hd hi (lv_at hL j hj) (K p l e s m args below meth c X hA hAE H locs ls hP hD hS hL)
theorem kV.il {n : Fin 4} {i : Nat} {x : Int32} (j : Nat) (hd : decode (qMT k).2.1 pc = .ok (.iload_n n, 1)) (hi : (n : Nat) = i) (hj : lo[j]? = some (i, .int x)) (K : kV k E A B d mc ms nc ns (pc + 1) lo (.int x :: st) ws) : kV k E A B d mc ms nc ns pc lo st ws := by
  intro p l e s m args below meth c X hA hAE H locs ls hP hD hS hL
  exact lv_iload_n X.1 X.2.1 hd hi (lv_at hL j hj) (K p l e s m args below meth c X hA hAE H locs ls hP hD hS hL)
theorem kV.is {n : Fin 4} {i : Nat} {x : Int32} {lo' : List (Nat × Value)} (hd : decode (qMT k).2.1 pc = .ok (.istore_n n, 1)) (hi : (n : Nat) = i) (hn : i < (qMT k).2.2.1) (hl : (i, Value.int x) :: lo.filter (fun q => !(q.1 == i) && !(q.1 + 1 == i && q.2.category == 2)) = lo') (K : kV k E A B d mc ms nc ns (pc + 1) lo' st ws) : kV k E A B d mc ms nc ns pc lo (.int x :: st) ws := by
  intro p l e s m args below meth c X hA hAE H locs ls hP hD hS hL
  exact lv_istore_n X.1 X.2.1 hd hi hL hn hl (fun ls' hL' => K p l e s m args below meth c X hA hAE H locs ls' hP hD hS hL')
theorem kV.ii {i : Nat} {n : Int} {x v : Int32} {lo' : List (Nat × Value)} (j : Nat) (hd : decode (qMT k).2.1 pc = .ok (.iinc i n, 3)) (hj : lo[j]? = some (i, .int x)) (hv : x + Int32.ofInt n = v) (hn : i < (qMT k).2.2.1) (hl : (i, Value.int v) :: lo.filter (fun q => !(q.1 == i) && !(q.1 + 1 == i && q.2.category == 2)) = lo') (K : kV k E A B d mc ms nc ns (pc + 3) lo' st ws) : kV k E A B d mc ms nc ns pc lo st ws := by
  intro p l e s m args below meth c X hA hAE H locs ls hP hD hS hL
  exact lv_iinc X.1 X.2.1 hd hL hj hv hn hl (fun ls' hL' => K p l e s m args below meth c X hA hAE H locs ls' hP hD hS hL')
theorem kV.ic {n : Int} (v : Int32) (hd : decode (qMT k).2.1 pc = .ok (.iconst n, 1)) (hv : Int32.ofInt n = v) (K : kV k E A B d mc ms nc ns (pc + 1) lo (.int v :: st) ws) : kV k E A B d mc ms nc ns pc lo st ws := by
  intro p l e s m args below meth c X hA hAE H locs ls hP hD hS hL
  exact lv_iconst X.1 X.2.1 hd hv (K p l e s m args below meth c X hA hAE H locs ls hP hD hS hL)
theorem kV.bp {n : Int} (v : Int32) (hd : decode (qMT k).2.1 pc = .ok (.bipush n, 2)) (hv : (Int8.ofInt n).toInt32 = v) (K : kV k E A B d mc ms nc ns (pc + 2) lo (.int v :: st) ws) : kV k E A B d mc ms nc ns pc lo st ws := by
  intro p l e s m args below meth c X hA hAE H locs ls hP hD hS hL
  exact lv_bipush X.1 X.2.1 hd hv (K p l e s m args below meth c X hA hAE H locs ls hP hD hS hL)
theorem kV.sp {n : Int} (v : Int32) (hd : decode (qMT k).2.1 pc = .ok (.sipush n, 3)) (hv : (Int16.ofInt n).toInt32 = v) (K : kV k E A B d mc ms nc ns (pc + 3) lo (.int v :: st) ws) : kV k E A B d mc ms nc ns pc lo st ws := by
  intro p l e s m args below meth c X hA hAE H locs ls hP hD hS hL
  exact lv_sipush X.1 X.2.1 hd hv (K p l e s m args below meth c X hA hAE H locs ls hP hD hS hL)
theorem kV.lc {n : Fin 2} (v : Int64) (hd : decode (qMT k).2.1 pc = .ok (.lconst n, 1)) (hv : Int64.ofNat (n : Nat) = v) (K : kV k E A B d mc ms nc ns (pc + 1) lo (.long v :: st) ws) : kV k E A B d mc ms nc ns pc lo st ws := by
  intro p l e s m args below meth c X hA hAE H locs ls hP hD hS hL
  exact lv_lconst X.1 X.2.1 hd hv (K p l e s m args below meth c X hA hAE H locs ls hP hD hS hL)
theorem kV.du {v : Value} (hd : decode (qMT k).2.1 pc = .ok (.dup, 1)) (hv : v.category = 1) (K : kV k E A B d mc ms nc ns (pc + 1) lo (v :: v :: st) ws) : kV k E A B d mc ms nc ns pc lo (v :: st) ws := by
  intro p l e s m args below meth c X hA hAE H locs ls hP hD hS hL
  exact lv_dup X.1 X.2.1 hd hv (K p l e s m args below meth c X hA hAE H locs ls hP hD hS hL)
theorem kV.go {off : Int} (t : Nat) (hd : decode (qMT k).2.1 pc = .ok (.goto off, 3)) (ht : (pc : Int) + off = (t : Int)) (K : kV k E A B d mc ms nc ns t lo st ws) : kV k E A B d mc ms nc ns pc lo st ws := by
  intro p l e s m args below meth c X hA hAE H locs ls hP hD hS hL
  exact lv_goto X.1 X.2.1 hd ht (K p l e s m args below meth c X hA hAE H locs ls hP hD hS hL)
theorem kV.ge {x y : Int32} {off : Int} (t : Nat) (hd : decode (qMT k).2.1 pc = .ok (.if_icmp .ge off, 3)) (ht : (pc : Int) + off = (t : Int)) (K1 : y ≤ x → kV k E A B d mc ms nc ns t lo st ws) (K2 : ¬ y ≤ x → kV k E A B d mc ms nc ns (pc + 3) lo st ws) : kV k E A B d mc ms nc ns pc lo (.int y :: .int x :: st) ws := by
  intro p l e s m args below meth c X hA hAE H locs ls hP hD hS hL
  exact lv_icmp_ge X.1 X.2.1 hd ht (fun h => K1 h p l e s m args below meth c X hA hAE H locs ls hP hD hS hL) (fun h => K2 h p l e s m args below meth c X hA hAE H locs ls hP hD hS hL)
theorem kV.ne {x y : Int32} {off : Int} (t : Nat) (hd : decode (qMT k).2.1 pc = .ok (.if_icmp .ne off, 3)) (ht : (pc : Int) + off = (t : Int)) (K1 : ¬ x = y → kV k E A B d mc ms nc ns t lo st ws) (K2 : x = y → kV k E A B d mc ms nc ns (pc + 3) lo st ws) : kV k E A B d mc ms nc ns pc lo (.int y :: .int x :: st) ws := by
  intro p l e s m args below meth c X hA hAE H locs ls hP hD hS hL
  exact lv_icmp_ne X.1 X.2.1 hd ht (fun h => K1 h p l e s m args below meth c X hA hAE H locs ls hP hD hS hL) (fun h => K2 (by first | exact h | simpa using h) p l e s m args below meth c X hA hAE H locs ls hP hD hS hL)
theorem k_oi : (Cond.instanceMethod Lib.objectInit) ∈ qAL := qIs_in (h := 283) (by decide +kernel)
theorem k_oc : (Cond.code Lib.objectInit ⟨#[0xb1]⟩ 1 none) ∈ qAL := qIs_in (h := 284) (by decide +kernel)
theorem kV.oi {i h a : Nat} (hd : decode (qMT k).2.1 pc = .ok (.invokespecial i, 3)) (hw : qIs h (.methodLink (qCN (qMT k).2.2.2.2.1) i Lib.objectInit) = true) (h1 : 1 ≤ d) (K : kV k E A B d mc ms nc ns (pc + 3) lo [] ws) : kV k E A B d mc ms nc ns pc lo [.ref a] ws := by
  intro p l e s m args below meth c X hA hAE H locs ls hP hD hS hL
  obtain ⟨hx, hb, hml, hr, hlk, hown, hts, -⟩ := id X
  exact W.objInit hx hb hown (hts _ (qIs_in hw)) (hts _ k_oi) (hts _ k_oc) rfl (by rw [hml]; exact hL.1) rfl hd h1 (by show 2 * 0 + 0 + 12 ≤ 64 * d; omega) (K p l e s m args below meth c X hA hAE H locs ls hP hD hS hL)
theorem kV.rt (hd : decode (qMT k).2.1 pc = .ok (.return_, 1)) (hr : (qMT k).2.2.2.1 = none) (h1 : nc ≤ mc) (h2 : ns ≤ ms) (hB : B ws) : kV k E A B d mc ms nc ns pc lo [] ws := by
  intro p l e s m args below meth c X hA hAE H locs ls hP hD hS hL
  obtain ⟨hx, hb, hml, hret, hlk, hown, hts, -⟩ := id X
  refine W.widen (k := mc) (n := ms) h1 h2 ?_
  exact W.vret hx hb (hret.trans hr) (fun t ht hW => ⟨⟨(), rfl, trivial, ws, hB, by rw [ht]; exact hP, hD⟩, hS.F ht⟩) hS.2.2 hd hlk
end KV
