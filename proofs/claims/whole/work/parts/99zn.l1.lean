/-! the law: what its start gives -/
theorem k_lw {w : Cond} (h : w ∈ qAL) : w ∈ lw_tbl := (List.mem_filter.mp h).1
def kih (c : Nat) : Nat := [392, 286, 616, 435, 460, 701, 418, 489, 473, 644, 638, 278, 1717].getD c 0
theorem k_inst : ∀ c, c < 13 → qIs (kih c) (.instantiable (qCN c) (qnf c)) = true := by decide +kernel
theorem k_arr {args : Array Value} {s : State} {ty : FieldType} (h : (Cond.arrayClass ty).before args s = true) (hra : ∀ (U : State) cA, U.vm.findClass ("[" ++ ty.toString) = some cA → va_RA U cA ty) (ho : ∀ C, ty ≠ .object C) : ∃ cA, ArrOfT s cA ty ∧ va_RA s cA ty := by
  obtain ⟨cA, kA, comp, h1, h2, h3⟩ := Cond.arrayClass_spec h
  exact ⟨cA, fun n z => ⟨fun k h => (by cases h), kA, h2, comp, h3⟩, hra _ _ h1⟩
theorem k_arrO {args : Array Value} {s : State} {C : String} (h : (Cond.arrayOver (.object C)).before args s = true) : ∃ cA, ArrOfT s cA (.object C) ∧ va_RA s cA (.object C) := by
  obtain ⟨comp, c, k, h1, h2, h3, h4, h5⟩ := Cond.arrayOver_spec h
  exact ⟨c, fun n z => ⟨fun k h => (by cases h), k, h3, comp, h4⟩, k, comp, h3, h4, h1, h5⟩
def kgn1 : Cond := Jvm.Cond.and given_1 narrow_1
set_option maxRecDepth 100000 in
theorem k_str {s : State} {b : Nat} (hgv : kgn1.before #[Value.ref b] s = true) (own : String) (i : Nat) (byt : List Int32) (hl : byt.length < 2 ^ 31) (h1 : Cond.exactly (.string own i) "java/lang/String" ∈ flatC kgn1) (h2 : Cond.eq (.field (.string own i) "java/lang/String" "coder" "B") (.int 0) ∈ flatC kgn1) (h3 : Cond.arrayOf (.field (.string own i) "java/lang/String" "value" "[B") .byte ∈ flatC kgn1) (h4 : Cond.eq (.length (.field (.string own i) "java/lang/String" "value" "[B")) (.int (Int32.ofNat byt.length)) ∈ flatC kgn1) (h5 : ∀ j, j < byt.length → Cond.eq (.elem (.field (.string own i) "java/lang/String" "value" "[B") (.int (Int32.ofNat j))) (.int (byt.getD j 0)) ∈ flatC kgn1) :
    ∃ a v : Nat, vk_S 1 [byt.length] [byt] (fun _ => a) (fun _ => v) (fun q => s.heap.size ≤ q) s s.heap ∧ (Term.string own i).eval #[Value.ref b] s none [] s = some (.ref a) := by
  have hs := flat_of_before _ hgv
  obtain ⟨adK, adV, hS, he⟩ := vk_Sof (args := #[Value.ref b]) (s := s) (N := 1) (tm := fun _ => .string own i) (len := [byt.length]) (byt := [byt]) (A := fun q => s.heap.size ≤ q) (fun j hj => by have e : j = 0 := (by omega); subst e; exact hl) (fun j hj => hs _ h1) (fun j hj => hs _ h2) (fun j hj => hs _ h3) (fun j hj => by have e : j = 0 := (by omega); subst e; exact hs _ h4) (fun j hj k hk => by have e : j = 0 := (by omega); subst e; exact hs _ (h5 k hk)) (fun j k hj hk hjk => by omega) (fun a ha h => by omega)
  refine ⟨adK 0, adV 0, ⟨fun j hj => ?_, fun j k hj hk _ => by omega⟩, he 0 (by decide)⟩
  have e : j = 0 := by omega
  subst e
  exact hS.1 0 hj
def kel (own : String) (i : Nat) (byt : List Int32) (j : Nat) : Cond := Cond.eq (.elem (.field (.string own i) "java/lang/String" "value" "[B") (.int (Int32.ofNat j))) (.int (byt.getD j 0))
theorem kdr {w : Cond} {n : Nat} (h : w ∈ (flatC kgn1).drop n) : w ∈ flatC kgn1 := List.mem_of_mem_drop h
theorem k_e10 : ∀ j, j < 28 → kel RX7 57 kRESb (min (0 + j) 109) ∈ (flatC kgn1).drop 39 := by decide +kernel
theorem k_e11 : ∀ j, j < 28 → kel RX7 57 kRESb (min (28 + j) 109) ∈ (flatC kgn1).drop 67 := by decide +kernel
theorem k_e12 : ∀ j, j < 28 → kel RX7 57 kRESb (min (56 + j) 109) ∈ (flatC kgn1).drop 95 := by decide +kernel
theorem k_e13 : ∀ j, j < 28 → kel RX7 57 kRESb (min (84 + j) 109) ∈ (flatC kgn1).drop 123 := by decide +kernel
theorem k_e20 : ∀ j, j < 28 → kel RX12 qKEYi qKEYb (0 + j) ∈ (flatC kgn1).drop 153 := by decide +kernel
theorem k_e21 : ∀ j, j < 28 → kel RX12 qKEYi qKEYb (28 + j) ∈ (flatC kgn1).drop 181 := by decide +kernel
theorem k_e22 : ∀ j, j < 28 → kel RX12 qKEYi qKEYb (56 + j) ∈ (flatC kgn1).drop 209 := by decide +kernel
theorem k_e23 : ∀ j, j < 28 → kel RX12 qKEYi qKEYb (84 + j) ∈ (flatC kgn1).drop 237 := by decide +kernel
theorem k_e1 (j : Nat) (hj : j < 110) : kel RX7 57 kRESb j ∈ flatC kgn1 := by
  rcases (show j < 28 ∨ (28 ≤ j ∧ j < 56) ∨ (56 ≤ j ∧ j < 84) ∨ 84 ≤ j by omega) with h | h | h | h
  · have := kdr (k_e10 j h)
    rwa [show min (0 + j) 109 = j by omega] at this
  · have := kdr (k_e11 (j - 28) (by omega))
    rwa [show min (28 + (j - 28)) 109 = j by omega] at this
  · have := kdr (k_e12 (j - 56) (by omega))
    rwa [show min (56 + (j - 56)) 109 = j by omega] at this
  · have := kdr (k_e13 (j - 84) (by omega))
    rwa [show min (84 + (j - 84)) 109 = j by omega] at this
theorem k_e2 (j : Nat) (hj : j < 112) : kel RX12 qKEYi qKEYb j ∈ flatC kgn1 := by
  rcases (show j < 28 ∨ (28 ≤ j ∧ j < 56) ∨ (56 ≤ j ∧ j < 84) ∨ 84 ≤ j by omega) with h | h | h | h
  · have := kdr (k_e20 j h)
    rwa [show 0 + j = j by omega] at this
  · have := kdr (k_e21 (j - 28) (by omega))
    rwa [show 28 + (j - 28) = j by omega] at this
  · have := kdr (k_e22 (j - 56) (by omega))
    rwa [show 56 + (j - 56) = j by omega] at this
  · have := kdr (k_e23 (j - 84) (by omega))
    rwa [show 84 + (j - 84) = j by omega] at this
theorem k_str1 {s : State} {b : Nat} (hgv : kgn1.before #[Value.ref b] s = true) : ∃ a v : Nat, vk_S 1 [kRESb.length] [kRESb] (fun _ => a) (fun _ => v) (fun q => s.heap.size ≤ q) s s.heap ∧ (Term.string RX7 57).eval #[Value.ref b] s none [] s = some (.ref a) :=
  k_str hgv RX7 57 kRESb (by decide) (by decide +kernel) (by decide +kernel) (by decide +kernel) (by decide +kernel) (fun j hj => k_e1 j hj)
theorem k_str2 {s : State} {b : Nat} (hgv : kgn1.before #[Value.ref b] s = true) : ∃ a v : Nat, vk_S 1 [qKEYb.length] [qKEYb] (fun _ => a) (fun _ => v) (fun q => s.heap.size ≤ q) s s.heap ∧ (Term.string RX12 qKEYi).eval #[Value.ref b] s none [] s = some (.ref a) :=
  k_str hgv RX12 qKEYi qKEYb (by decide) (kdr (n := 149) (by decide +kernel)) (kdr (n := 149) (by decide +kernel)) (kdr (n := 149) (by decide +kernel)) (kdr (n := 149) (by decide +kernel)) (fun j hj => k_e2 j hj)
/-- the law's start: classes, arrays' classes, both text constants -/
theorem k_start {s : State} {b : Nat} (hts : ∀ w ∈ lw_tbl, w.before #[Value.ref b] s = true) (hgv : kgn1.before #[Value.ref b] s = true) : ∃ E : qE, E.2.2.2 = s.heap.size ∧ va_K E.1 vwCl (qtys E) s ∧ kStr E s ∧ qStr E s s.heap := by
  have hq : ∀ w ∈ qAL, w.before #[Value.ref b] s = true := fun w h => hts w (k_lw h)
  have hs := flat_of_before _ hgv
  have hc : ∀ c, ∃ x : ClassId × (Nat → Nat), c < 13 → u_Kn s (qCN c) (qTF c) (qnf c) x.1 x.2 := by
    intro c
    by_cases h : c < 13
    · obtain ⟨cC, iS, hk⟩ := u_known hq (qws_in c h) (hq _ (qIs_in (k_inst c h)))
      exact ⟨(cC, iS), fun _ => hk⟩
    · exact ⟨(0, fun _ => 0), fun h' => absurd h' h⟩
  obtain ⟨D, hD⟩ := Classical.axiomOfChoice hc
  obtain ⟨t0, a0, b0⟩ := k_arr (hq (.arrayClass .int) (qIs_in (h := 390) (by decide +kernel))) (fun _ _ h => h) (fun C h => by cases h)
  obtain ⟨t1, a1, b1⟩ := k_arr (hq (.arrayClass .long) (qIs_in (h := 389) (by decide +kernel))) (fun _ _ h => h) (fun C h => by cases h)
  obtain ⟨t2, a2, b2⟩ := k_arr (hq (.arrayClass .byte) (qIs_in (h := 614) (by decide +kernel))) (fun _ _ h => h) (fun C h => by cases h)
  obtain ⟨t3, a3, b3⟩ := k_arr (hq (.arrayClass .boolean) (qIs_in (h := 1875) (by decide +kernel))) (fun _ _ h => h) (fun C h => by cases h)
  have ao1 : (Cond.arrayOver (.object RX1)).before #[Value.ref b] s = true := hts _ (by decide +kernel)
  have ao9 : (Cond.arrayOver (.object RX9)).before #[Value.ref b] s = true := hts _ (by decide +kernel)
  obtain ⟨t4, a4, b4⟩ := k_arrO ao1
  obtain ⟨t5, a5, b5⟩ := k_arrO ao9
  obtain ⟨x1, v1, s1, e1⟩ := k_str1 hgv
  obtain ⟨x2, v2, s2, e2⟩ := k_str2 hgv
  have hA : ∀ a : Nat, a < s.heap.size → ¬ s.heap.size ≤ a := fun a h => by omega
  have zc : va_Z "java/lang/String" "COMPACT_STRINGS" "Z" (.int 1) (fun q => s.heap.size ≤ q) s s.heap := va_Zof (hts (.laysStatic "java/lang/String" "COMPACT_STRINGS" "Z") (by decide +kernel)) (hq (.initialized "java/lang/String") (qIs_in (h := 265) (by decide +kernel))) (va_eqt (hs _ (by decide +kernel))) hA
  have zq : va_Zq "jdk/internal/util/Preconditions" "SIOOBE_FORMATTER" "Ljava/util/function/BiFunction;" (fun q => s.heap.size ≤ q) s s.heap := va_Zqof (hts (.laysStatic "jdk/internal/util/Preconditions" "SIOOBE_FORMATTER" "Ljava/util/function/BiFunction;") (by decide +kernel)) (hq (.initialized "jdk/internal/util/Preconditions") (qIs_in (h := 267) (by decide +kernel))) (hs _ (by decide +kernel)) hA
  have hr1 : (Cond.stringRef RX7 57 kRES).before #[Value.ref b] s = true := hts _ (by decide +kernel)
  have hr2 : (Cond.stringRef RX12 qKEYi qKEYS).before #[Value.ref b] s = true := hts _ (by decide +kernel)
  have n1 : va_Nw (.methodLinkNest RX11 21 yX0_init RX11) s := va_Nw.of rfl (hts _ (by decide +kernel))
  have n2 : va_Nw (.methodLinkNest RX11 81 yX9_init RX11) s := va_Nw.of rfl (hts _ (by decide +kernel))
  have n3 : va_Nw (.methodLinkNest RX11 88 yX5_init RX11) s := va_Nw.of rfl (hts _ (by decide +kernel))
  have n4 : va_Nw (.methodLinkNest RX10 11 yX9_init RX11) s := va_Nw.of rfl (hts _ (by decide +kernel))
  refine ⟨((fun c => (D c).1, fun c => (D c).2), fun k => if k = 1000 then x2 else if k = 1001 then v2 else if k = 1002 then x1 else v1, fun t => [t0, t1, t2, t3, t4, t5].getD t 0, s.heap.size), rfl, ⟨fun c q hcq => ?_, fun k q hk => ?_⟩, ⟨vk_R.of hr1 e1, ⟨s1, zc, zq⟩, n1, n2, n3, n4, va_AO.of ao1, va_AO.of ao9⟩, ⟨vk_R.of hr2 e2, s2, zc, zq⟩⟩
  · have hlt : c < 13 := (List.getElem?_eq_some_iff.mp hcq).1
    have e := (qcl_at c hlt).symm.trans hcq
    cases e
    exact hD c hlt
  · have hlt : k < 6 := (List.getElem?_eq_some_iff.mp hk).1
    rcases (show k = 0 ∨ k = 1 ∨ k = 2 ∨ k = 3 ∨ k = 4 ∨ k = 5 by omega) with rfl | rfl | rfl | rfl | rfl | rfl
    · cases hk; exact ⟨a0, b0⟩
    · cases hk; exact ⟨a1, b1⟩
    · cases hk; exact ⟨a2, b2⟩
    · cases hk; exact ⟨a3, b3⟩
    · cases hk; exact ⟨a4, b4⟩
    · cases hk; exact ⟨a5, b5⟩
