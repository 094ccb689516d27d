/-! the law: rules of its walk -/
def gX (E : qE) (b L : Nat) (xs : Nat → Int32) (p : Program) (s : State) (m : MethodId) (meth : Method) (c : Code) : Prop := lw_At p s m meth c b L xs ∧ va_K E.1 vwCl (qtys E) s ∧ kStr E s ∧ qStr E s s.heap ∧ E.2.2.2 = s.heap.size
def gW (E : qE) (b L : Nat) (xs : Nat → Int32) (nc ns pc : Nat) (lo : List (Nat × Value)) (st : List Value) (ws : va_W) : Prop :=
  ∀ (p : Program) (l : Launch) (e : Env) (s : State) (m : MethodId) (below : List Frame) (meth : Method) (c : Code), gX E b L xs p s m meth c → ∀ (H : Heap) (locs : List Loc) (ls : Array Slot), va_P E.1 vwCl ws H → va_D (qA E) ws → va_S (qA E) s.heap H locs → lv_has ls 4 lo →
  W p l e room_1 s m #[Value.ref b] below meth c H locs nc ns (lw_Z below #[Value.ref b] s) (F0 m pc ls st)
section GW
variable {E : qE} {b L : Nat} {xs : Nat → Int32} {nc ns pc : Nat} {lo : List (Nat × Value)} {st : List Value} {ws : va_W}
theorem gq {args : Array Value} {s : State} (hts : ∀ w ∈ lw_tbl, w.before args s = true) : ∀ w ∈ qAL, w.before args s = true := fun w h => hts w (k_lw h)
theorem gW.al {n : Fin 4} {i a : Nat} (j : Nat) (hd : decode code pc = .ok (.aload_n n, 1)) (hi : (n : Nat) = i) (hj : lo[j]? = some (i, .ref a)) (K : gW E b L xs nc ns (pc + 1) lo (.ref a :: st) ws) : gW E b L xs nc ns pc lo st ws := by
  intro p l e s m below meth c X H locs ls hP hD hS hL
  exact lv_aload_n X.1.1 X.1.2.1 hd hi (lv_at hL j hj) (K p l e s m below meth c X H locs ls hP hD hS hL)
theorem gW.il {n : Fin 4} {i : Nat} {x : Int32} (j : Nat) (hd : decode code pc = .ok (.iload_n n, 1)) (hi : (n : Nat) = i) (hj : lo[j]? = some (i, .int x)) (K : gW E b L xs nc ns (pc + 1) lo (.int x :: st) ws) : gW E b L xs nc ns pc lo st ws := by
  intro p l e s m below meth c X H locs ls hP hD hS hL
  exact lv_iload_n X.1.1 X.1.2.1 hd hi (lv_at hL j hj) (K p l e s m below meth c X H locs ls hP hD hS hL)
theorem gW.as {n : Fin 4} {i x : Nat} {lo' : List (Nat × Value)} (hd : decode code pc = .ok (.astore_n n, 1)) (hi : (n : Nat) = i) (hn : i < 4) (hl : (i, Value.ref x) :: lo.filter (fun q => !(q.1 == i) && !(q.1 + 1 == i && q.2.category == 2)) = lo') (K : gW E b L xs nc ns (pc + 1) lo' st ws) : gW E b L xs nc ns pc lo (.ref x :: st) ws := by
  intro p l e s m below meth c X H locs ls hP hD hS hL
  exact lv_astore_n X.1.1 X.1.2.1 hd hi hL hn hl (fun ls' hL' => K p l e s m below meth c X H locs ls' hP hD hS hL')
theorem gW.is {n : Fin 4} {i : Nat} {x : Int32} {lo' : List (Nat × Value)} (hd : decode code pc = .ok (.istore_n n, 1)) (hi : (n : Nat) = i) (hn : i < 4) (hl : (i, Value.int x) :: lo.filter (fun q => !(q.1 == i) && !(q.1 + 1 == i && q.2.category == 2)) = lo') (K : gW E b L xs nc ns (pc + 1) lo' st ws) : gW E b L xs nc ns pc lo (.int x :: st) ws := by
  intro p l e s m below meth c X H locs ls hP hD hS hL
  exact lv_istore_n X.1.1 X.1.2.1 hd hi hL hn hl (fun ls' hL' => K p l e s m below meth c X H locs ls' hP hD hS hL')
theorem gW.ii {i : Nat} {n : Int} {x v : Int32} {lo' : List (Nat × Value)} (j : Nat) (hd : decode code pc = .ok (.iinc i n, 3)) (hj : lo[j]? = some (i, .int x)) (hv : x + Int32.ofInt n = v) (hn : i < 4) (hl : (i, Value.int v) :: lo.filter (fun q => !(q.1 == i) && !(q.1 + 1 == i && q.2.category == 2)) = lo') (K : gW E b L xs nc ns (pc + 3) lo' st ws) : gW E b L xs nc ns pc lo st ws := by
  intro p l e s m below meth c X H locs ls hP hD hS hL
  exact lv_iinc X.1.1 X.1.2.1 hd hL hj hv hn hl (fun ls' hL' => K p l e s m below meth c X H locs ls' hP hD hS hL')
theorem gW.ic {n : Int} (v : Int32) (hd : decode code pc = .ok (.iconst n, 1)) (hv : Int32.ofInt n = v) (K : gW E b L xs nc ns (pc + 1) lo (.int v :: st) ws) : gW E b L xs nc ns pc lo st ws := by
  intro p l e s m below meth c X H locs ls hP hD hS hL
  exact lv_iconst X.1.1 X.1.2.1 hd hv (K p l e s m below meth c X H locs ls hP hD hS hL)
theorem gW.bp {n : Int} (v : Int32) (hd : decode code pc = .ok (.bipush n, 2)) (hv : (Int8.ofInt n).toInt32 = v) (K : gW E b L xs nc ns (pc + 2) lo (.int v :: st) ws) : gW E b L xs nc ns pc lo st ws := by
  intro p l e s m below meth c X H locs ls hP hD hS hL
  exact lv_bipush X.1.1 X.1.2.1 hd hv (K p l e s m below meth c X H locs ls hP hD hS hL)
theorem gW.du {v : Value} (hd : decode code pc = .ok (.dup, 1)) (hv : v.category = 1) (K : gW E b L xs nc ns (pc + 1) lo (v :: v :: st) ws) : gW E b L xs nc ns pc lo (v :: st) ws := by
  intro p l e s m below meth c X H locs ls hP hD hS hL
  exact lv_dup X.1.1 X.1.2.1 hd hv (K p l e s m below meth c X H locs ls hP hD hS hL)
theorem gW.go {off : Int} (t : Nat) (hd : decode code pc = .ok (.goto off, 3)) (ht : (pc : Int) + off = (t : Int)) (K : gW E b L xs nc ns t lo st ws) : gW E b L xs nc ns pc lo st ws := by
  intro p l e s m below meth c X H locs ls hP hD hS hL
  exact lv_goto X.1.1 X.1.2.1 hd ht (K p l e s m below meth c X H locs ls hP hD hS hL)
theorem gW.gt {x y : Int32} {off : Int} (t : Nat) (hd : decode code pc = .ok (.if_icmp .gt off, 3)) (ht : (pc : Int) + off = (t : Int)) (K1 : y < x → gW E b L xs nc ns t lo st ws) (K2 : ¬ y < x → gW E b L xs nc ns (pc + 3) lo st ws) : gW E b L xs nc ns pc lo (.int y :: .int x :: st) ws := by
  intro p l e s m below meth c X H locs ls hP hD hS hL
  exact lv_icmp_gt X.1.1 X.1.2.1 hd ht (fun h => K1 h p l e s m below meth c X H locs ls hP hD hS hL) (fun h => K2 h p l e s m below meth c X H locs ls hP hD hS hL)
/-- two answers that are alike -/
theorem gW.eq {x y : Int32} {off : Int} (t : Nat) (hxy : x = y) (hd : decode code pc = .ok (.if_icmp .eq off, 3)) (ht : (pc : Int) + off = (t : Int)) (K : gW E b L xs nc ns t lo st ws) : gW E b L xs nc ns pc lo (.int y :: .int x :: st) ws := by
  intro p l e s m below meth c X H locs ls hP hD hS hL
  exact lv_icmp_eq X.1.1 X.1.2.1 hd ht (fun _ => K p l e s m below meth c X H locs ls hP hD hS hL) (fun h => absurd hxy h)
theorem gW.le {x y : Int64} {off : Int} (t : Nat) (hxy : x = y) (hd : decode code pc = .ok (.lcmp, 1)) (hd2 : decode code (pc + 1) = .ok (.ifCond .eq off, 3)) (ht : ((pc + 1 : Nat) : Int) + off = (t : Int)) (K : gW E b L xs nc ns t lo st ws) : gW E b L xs nc ns pc lo (.long y :: .long x :: st) ws := by
  intro p l e s m below meth c X H locs ls hP hD hS hL
  refine W.lcmp X.1.1 X.1.2.1 hd ?_
  have h0 : lg_cmp x y = 0 := by rw [lg_cmp_eq]; exact hxy
  exact lv_if_eq X.1.1 X.1.2.1 hd2 ht (fun _ => K p l e s m below meth c X H locs ls hP hD hS hL) (fun h => absurd h0 h)
/-- a place of the script -/
theorem gW.arg {i k : Nat} {j3 j0 : Nat} (h0 : lo[j0]? = some (0, .ref b)) (h3 : lo[j3]? = some (3, .int (nI i))) (hi : i + k < L) (hL : L ≤ 3072) (d0 : decode code pc = .ok (.aload_n 0, 1)) (d1 : decode code (pc + 1) = .ok (.iload_n 3, 1)) (d2 : decode code (pc + 2) = .ok (.iconst k, 1)) (d3 : decode code (pc + 3) = .ok (.iadd, 1)) (d4 : decode code (pc + 4) = .ok (.iaload, 1)) (K : gW E b L xs nc ns (pc + 5) lo (.int (xs (i + k)) :: st) ws) : gW E b L xs nc ns pc lo st ws := by
  intro p l e s m below meth c X H locs ls hP hD hS hLL
  refine lv_aload_n (k := 0) X.1.1 X.1.2.1 d0 rfl (lv_at hLL j0 h0) ?_
  refine lv_iload_n (k := 3) X.1.1 X.1.2.1 d1 rfl (lv_at hLL j3 h3) ?_
  refine lv_iconst (v := nI k) X.1.1 X.1.2.1 d2 rfl ?_
  refine lv_iadd X.1.1 X.1.2.1 d3 ?_
  rw [nI_add]
  refine va_sld X.1.1 X.1.2.1 X.1.2.2.2.2.2.2.1 X.1.2.2.2.2.2.2.2.1 (fun h => ?_) hS (vp_in_nI hi (by omega)) d4 ?_
  · have h : E.2.2.2 ≤ b := h
    rw [X.2.2.2.2] at h
    have := X.1.2.2.2.2.2.2.2.1
    omega
  rw [nI_clamp (by omega)]
  exact K p l e s m below meth c X H locs ls hP hD hS hLL
end GW
