/-! constructors: a camp, weeks -/
def kf1 (fs : List Value) : List Value := (((((fs.set 0 (.int (nI 4))).set 1 (.int (nI 3))).set 2 (.int (nI 4))).set 3 (.int (nI 0))).set 4 (.int (nI 0))).set 5 (.int (nI 0))
theorem kV.sl {n f : Nat} {fs : List Value} {v : Value} (h : fs.length = n) : (fs.set f v).length = n := by rw [List.length_set]; exact h
set_option maxRecDepth 20000 in
theorem k_empty (E : qE) (a : Nat) {fs : List Value} (hf : fs.length = 17) : kC 1 8 0 0 E [.ref a] [(a, .inr (1, fs))] (fun w => w = [(a, .inr (1, kf1 fs))]) := by
  refine kC.of (by decide +kernel) (Nat.le_of_ble_eq_true rfl) (fun A => ?_)
  refine kV.al (n := 0) (i := 0) 0 (by decide +kernel) rfl rfl ?_
  refine kV.ic (n := 4) (nI 4) (by decide +kernel) rfl ?_
  refine kV.pf (i := 49) 0 (by decide +kernel) (by decide) rfl (by decide) (by rw [hf]; decide) (h := 295) (by decide +kernel) rfl (.inr rfl) rfl rfl ?_
  refine kV.al (n := 0) (i := 0) 0 (by decide +kernel) rfl rfl ?_
  refine kV.ic (n := 3) (nI 3) (by decide +kernel) rfl ?_
  refine kV.pf (i := 53) 1 (by decide +kernel) (by decide) rfl (by decide) (by rw [kV.sl (hf)]; decide) (h := 300) (by decide +kernel) rfl (.inr rfl) rfl rfl ?_
  refine kV.al (n := 0) (i := 0) 0 (by decide +kernel) rfl rfl ?_
  refine kV.ic (n := 4) (nI 4) (by decide +kernel) rfl ?_
  refine kV.pf (i := 56) 2 (by decide +kernel) (by decide) rfl (by decide) (by rw [kV.sl (kV.sl (hf))]; decide) (h := 305) (by decide +kernel) rfl (.inr rfl) rfl rfl ?_
  refine kV.al (n := 0) (i := 0) 0 (by decide +kernel) rfl rfl ?_
  refine kV.ic (n := 0) (nI 0) (by decide +kernel) rfl ?_
  refine kV.pf (i := 59) 3 (by decide +kernel) (by decide) rfl (by decide) (by rw [kV.sl (kV.sl (kV.sl (hf)))]; decide) (h := 308) (by decide +kernel) rfl (.inr rfl) rfl rfl ?_
  refine kV.al (n := 0) (i := 0) 0 (by decide +kernel) rfl rfl ?_
  refine kV.ic (n := 0) (nI 0) (by decide +kernel) rfl ?_
  refine kV.pf (i := 62) 4 (by decide +kernel) (by decide) rfl (by decide) (by rw [kV.sl (kV.sl (kV.sl (kV.sl (hf))))]; decide) (h := 313) (by decide +kernel) rfl (.inr rfl) rfl rfl ?_
  refine kV.al (n := 0) (i := 0) 0 (by decide +kernel) rfl rfl ?_
  refine kV.ic (n := 0) (nI 0) (by decide +kernel) rfl ?_
  refine kV.pf (i := 65) 5 (by decide +kernel) (by decide) rfl (by decide) (by rw [kV.sl (kV.sl (kV.sl (kV.sl (kV.sl (hf)))))]; decide) (h := 319) (by decide +kernel) rfl (.inr rfl) rfl rfl ?_
  exact kV.rt (by decide +kernel) rfl (Nat.zero_le _) (Nat.zero_le _) rfl
def kL1 (E : qE) (q : Nat) (a : Nat → Nat) : va_W := [(q, .inr (1, [.int (nI 4), .int (nI 3), .int (nI 4), .int (nI 0), .int (nI 0), .int (nI 0), .ref (a 1), .ref (a 2), .ref (a 3), .ref (a 4), .ref (a 5), .ref (a 6), .ref (a 7), .ref (a 8), .ref (a 9), .ref (a 10), .ref (a 11)])), (a 1, .inl (E.2.2.1 1, 8, .inr (.inl fun _ => 0))), (a 2, .inl (E.2.2.1 0, 8, .inl fun _ => 0)), (a 3, .inl (E.2.2.1 0, 8, .inl fun _ => 0)), (a 4, .inl (E.2.2.1 0, 8, .inl fun _ => 0)), (a 5, .inl (E.2.2.1 0, 8, .inl fun _ => 0)), (a 6, .inl (E.2.2.1 0, 8, .inl fun _ => 0)), (a 7, .inl (E.2.2.1 0, 8, .inl fun _ => 0)), (a 8, .inl (E.2.2.1 0, 10, .inl fun _ => 0)), (a 9, .inl (E.2.2.1 0, 10, .inl fun _ => 0)), (a 10, .inl (E.2.2.1 0, 10, .inl fun _ => 0)), (a 11, .inl (E.2.2.1 0, 10, .inl fun _ => 0))]
set_option maxRecDepth 20000 in
theorem k_Camp (E : qE) (q : Nat) : kC 2 7 11 96 E [.ref q] [(q, .inr (1, kdf 1))] (fun w => ∃ a, w = kL1 E q a) := by
  refine kC.of (by decide +kernel) (Nat.le_of_ble_eq_true rfl) (fun A => ?_)
  refine kV.al (n := 0) (i := 0) 0 (by decide +kernel) rfl rfl ?_
  refine kV.oi (i := 3) (by decide +kernel) (h := 290) (by decide +kernel) (by decide) ?_
  refine kV.al (n := 0) (i := 0) 0 (by decide +kernel) rfl rfl ?_
  refine kV.bp (n := 8) (nI 8) (by decide +kernel) (by decide +kernel) ?_
  refine kV.aL 8 (by decide +kernel) (h := 389) (by decide +kernel) (by decide +kernel) rfl rfl (Nat.le_of_ble_eq_true rfl) (Nat.le_of_ble_eq_true rfl) (fun q7 => ?_)
  refine kV.pf (i := 9) 6 (by decide +kernel) (by decide) rfl (by decide) (Nat.le_of_ble_eq_true rfl) (h := 325) (by decide +kernel) rfl (.inl rfl) rfl rfl ?_
  refine kV.al (n := 0) (i := 0) 0 (by decide +kernel) rfl rfl ?_
  refine kV.bp (n := 8) (nI 8) (by decide +kernel) (by decide +kernel) ?_
  refine kV.aI 8 (by decide +kernel) (h := 390) (by decide +kernel) (by decide +kernel) rfl rfl (Nat.le_of_ble_eq_true rfl) (Nat.le_of_ble_eq_true rfl) (fun q15 => ?_)
  refine kV.pf (i := 15) 7 (by decide +kernel) (by decide) rfl (by decide) (Nat.le_of_ble_eq_true rfl) (h := 326) (by decide +kernel) rfl (.inl rfl) rfl rfl ?_
  refine kV.al (n := 0) (i := 0) 0 (by decide +kernel) rfl rfl ?_
  refine kV.bp (n := 8) (nI 8) (by decide +kernel) (by decide +kernel) ?_
  refine kV.aI 8 (by decide +kernel) (h := 390) (by decide +kernel) (by decide +kernel) rfl rfl (Nat.le_of_ble_eq_true rfl) (Nat.le_of_ble_eq_true rfl) (fun q23 => ?_)
  refine kV.pf (i := 19) 8 (by decide +kernel) (by decide) rfl (by decide) (Nat.le_of_ble_eq_true rfl) (h := 329) (by decide +kernel) rfl (.inl rfl) rfl rfl ?_
  refine kV.al (n := 0) (i := 0) 0 (by decide +kernel) rfl rfl ?_
  refine kV.bp (n := 8) (nI 8) (by decide +kernel) (by decide +kernel) ?_
  refine kV.aI 8 (by decide +kernel) (h := 390) (by decide +kernel) (by decide +kernel) rfl rfl (Nat.le_of_ble_eq_true rfl) (Nat.le_of_ble_eq_true rfl) (fun q31 => ?_)
  refine kV.pf (i := 22) 9 (by decide +kernel) (by decide) rfl (by decide) (Nat.le_of_ble_eq_true rfl) (h := 332) (by decide +kernel) rfl (.inl rfl) rfl rfl ?_
  refine kV.al (n := 0) (i := 0) 0 (by decide +kernel) rfl rfl ?_
  refine kV.bp (n := 8) (nI 8) (by decide +kernel) (by decide +kernel) ?_
  refine kV.aI 8 (by decide +kernel) (h := 390) (by decide +kernel) (by decide +kernel) rfl rfl (Nat.le_of_ble_eq_true rfl) (Nat.le_of_ble_eq_true rfl) (fun q39 => ?_)
  refine kV.pf (i := 25) 10 (by decide +kernel) (by decide) rfl (by decide) (Nat.le_of_ble_eq_true rfl) (h := 334) (by decide +kernel) rfl (.inl rfl) rfl rfl ?_
  refine kV.al (n := 0) (i := 0) 0 (by decide +kernel) rfl rfl ?_
  refine kV.bp (n := 8) (nI 8) (by decide +kernel) (by decide +kernel) ?_
  refine kV.aI 8 (by decide +kernel) (h := 390) (by decide +kernel) (by decide +kernel) rfl rfl (Nat.le_of_ble_eq_true rfl) (Nat.le_of_ble_eq_true rfl) (fun q47 => ?_)
  refine kV.pf (i := 28) 11 (by decide +kernel) (by decide) rfl (by decide) (Nat.le_of_ble_eq_true rfl) (h := 336) (by decide +kernel) rfl (.inl rfl) rfl rfl ?_
  refine kV.al (n := 0) (i := 0) 0 (by decide +kernel) rfl rfl ?_
  refine kV.bp (n := 8) (nI 8) (by decide +kernel) (by decide +kernel) ?_
  refine kV.aI 8 (by decide +kernel) (h := 390) (by decide +kernel) (by decide +kernel) rfl rfl (Nat.le_of_ble_eq_true rfl) (Nat.le_of_ble_eq_true rfl) (fun q55 => ?_)
  refine kV.pf (i := 31) 12 (by decide +kernel) (by decide) rfl (by decide) (Nat.le_of_ble_eq_true rfl) (h := 338) (by decide +kernel) rfl (.inl rfl) rfl rfl ?_
  refine kV.al (n := 0) (i := 0) 0 (by decide +kernel) rfl rfl ?_
  refine kV.bp (n := 10) (nI 10) (by decide +kernel) (by decide +kernel) ?_
  refine kV.aI 10 (by decide +kernel) (h := 390) (by decide +kernel) (by decide +kernel) rfl rfl (Nat.le_of_ble_eq_true rfl) (Nat.le_of_ble_eq_true rfl) (fun q63 => ?_)
  refine kV.pf (i := 34) 13 (by decide +kernel) (by decide) rfl (by decide) (Nat.le_of_ble_eq_true rfl) (h := 340) (by decide +kernel) rfl (.inl rfl) rfl rfl ?_
  refine kV.al (n := 0) (i := 0) 0 (by decide +kernel) rfl rfl ?_
  refine kV.bp (n := 10) (nI 10) (by decide +kernel) (by decide +kernel) ?_
  refine kV.aI 10 (by decide +kernel) (h := 390) (by decide +kernel) (by decide +kernel) rfl rfl (Nat.le_of_ble_eq_true rfl) (Nat.le_of_ble_eq_true rfl) (fun q71 => ?_)
  refine kV.pf (i := 37) 14 (by decide +kernel) (by decide) rfl (by decide) (Nat.le_of_ble_eq_true rfl) (h := 343) (by decide +kernel) rfl (.inl rfl) rfl rfl ?_
  refine kV.al (n := 0) (i := 0) 0 (by decide +kernel) rfl rfl ?_
  refine kV.bp (n := 10) (nI 10) (by decide +kernel) (by decide +kernel) ?_
  refine kV.aI 10 (by decide +kernel) (h := 390) (by decide +kernel) (by decide +kernel) rfl rfl (Nat.le_of_ble_eq_true rfl) (Nat.le_of_ble_eq_true rfl) (fun q79 => ?_)
  refine kV.pf (i := 40) 15 (by decide +kernel) (by decide) rfl (by decide) (Nat.le_of_ble_eq_true rfl) (h := 346) (by decide +kernel) rfl (.inl rfl) rfl rfl ?_
  refine kV.al (n := 0) (i := 0) 0 (by decide +kernel) rfl rfl ?_
  refine kV.bp (n := 10) (nI 10) (by decide +kernel) (by decide +kernel) ?_
  refine kV.aI 10 (by decide +kernel) (h := 390) (by decide +kernel) (by decide +kernel) rfl rfl (Nat.le_of_ble_eq_true rfl) (Nat.le_of_ble_eq_true rfl) (fun q87 => ?_)
  refine kV.pf (i := 43) 16 (by decide +kernel) (by decide) rfl (by decide) (Nat.le_of_ble_eq_true rfl) (h := 349) (by decide +kernel) rfl (.inl rfl) rfl rfl ?_
  refine kV.al (n := 0) (i := 0) 0 (by decide +kernel) rfl rfl ?_
  refine kV.cV (i := 46) (k' := 8) (As := []) (rest := []) (k_empty E q rfl) (by decide +kernel) (by decide +kernel) rfl (by decide) rfl (h := 291) (by decide +kernel) (h' := 293) (by decide +kernel) rfl (by decide) (Nat.le_of_ble_eq_true rfl) (Nat.le_of_ble_eq_true rfl) (Nat.zero_le _) (fun w hw => ?_)
  subst hw
  exact kV.rt (by decide +kernel) rfl (Nat.le_of_ble_eq_true rfl) (Nat.le_of_ble_eq_true rfl) ⟨fun i => [q, q7, q15, q23, q31, q39, q47, q55, q63, q71, q79, q87].getD i 0, rfl⟩
def kL9 (E : qE) (q : Nat) (a : Nat → Nat) : va_W := [(q, .inr (9, [.int (nI 0), .int (nI 0), .int (nI 0), .ref (a 1), .ref (a 2), .ref (a 3), .ref (a 4), .ref (a 5)])), (a 1, .inl (E.2.2.1 0, 60, .inl fun _ => 0)), (a 2, .inl (E.2.2.1 0, 60, .inl fun _ => 0)), (a 3, .inl (E.2.2.1 0, 60, .inl fun _ => 0)), (a 4, .inl (E.2.2.1 0, 60, .inl fun _ => 0)), (a 5, .inl (E.2.2.1 0, 60, .inl fun _ => 0))]
set_option maxRecDepth 20000 in
theorem k_Weeks (E : qE) (q : Nat) : kC 2 119 5 300 E [.ref q] [(q, .inr (9, kdf 9))] (fun w => ∃ a, w = kL9 E q a) := by
  refine kC.of (by decide +kernel) (Nat.le_of_ble_eq_true rfl) (fun A => ?_)
  refine kV.al (n := 0) (i := 0) 0 (by decide +kernel) rfl rfl ?_
  refine kV.oi (i := 3) (by decide +kernel) (h := 648) (by decide +kernel) (by decide) ?_
  refine kV.al (n := 0) (i := 0) 0 (by decide +kernel) rfl rfl ?_
  refine kV.ic (n := 0) (nI 0) (by decide +kernel) rfl ?_
  refine kV.pf (i := 9) 0 (by decide +kernel) (by decide) rfl (by decide) (Nat.le_of_ble_eq_true rfl) (h := 649) (by decide +kernel) rfl (.inl rfl) rfl rfl ?_
  refine kV.al (n := 0) (i := 0) 0 (by decide +kernel) rfl rfl ?_
  refine kV.ic (n := 0) (nI 0) (by decide +kernel) rfl ?_
  refine kV.pf (i := 15) 1 (by decide +kernel) (by decide) rfl (by decide) (Nat.le_of_ble_eq_true rfl) (h := 652) (by decide +kernel) rfl (.inl rfl) rfl rfl ?_
  refine kV.al (n := 0) (i := 0) 0 (by decide +kernel) rfl rfl ?_
  refine kV.ic (n := 0) (nI 0) (by decide +kernel) rfl ?_
  refine kV.pf (i := 19) 2 (by decide +kernel) (by decide) rfl (by decide) (Nat.le_of_ble_eq_true rfl) (h := 654) (by decide +kernel) rfl (.inl rfl) rfl rfl ?_
  refine kV.al (n := 0) (i := 0) 0 (by decide +kernel) rfl rfl ?_
  refine kV.bp (n := 60) (nI 60) (by decide +kernel) (by decide +kernel) ?_
  refine kV.aI 60 (by decide +kernel) (h := 390) (by decide +kernel) (by decide +kernel) rfl rfl (Nat.le_of_ble_eq_true rfl) (Nat.le_of_ble_eq_true rfl) (fun q22 => ?_)
  refine kV.pf (i := 22) 3 (by decide +kernel) (by decide) rfl (by decide) (Nat.le_of_ble_eq_true rfl) (h := 657) (by decide +kernel) rfl (.inl rfl) rfl rfl ?_
  refine kV.al (n := 0) (i := 0) 0 (by decide +kernel) rfl rfl ?_
  refine kV.bp (n := 60) (nI 60) (by decide +kernel) (by decide +kernel) ?_
  refine kV.aI 60 (by decide +kernel) (h := 390) (by decide +kernel) (by decide +kernel) rfl rfl (Nat.le_of_ble_eq_true rfl) (Nat.le_of_ble_eq_true rfl) (fun q30 => ?_)
  refine kV.pf (i := 26) 4 (by decide +kernel) (by decide) rfl (by decide) (Nat.le_of_ble_eq_true rfl) (h := 659) (by decide +kernel) rfl (.inl rfl) rfl rfl ?_
  refine kV.al (n := 0) (i := 0) 0 (by decide +kernel) rfl rfl ?_
  refine kV.bp (n := 60) (nI 60) (by decide +kernel) (by decide +kernel) ?_
  refine kV.aI 60 (by decide +kernel) (h := 390) (by decide +kernel) (by decide +kernel) rfl rfl (Nat.le_of_ble_eq_true rfl) (Nat.le_of_ble_eq_true rfl) (fun q38 => ?_)
  refine kV.pf (i := 29) 5 (by decide +kernel) (by decide) rfl (by decide) (Nat.le_of_ble_eq_true rfl) (h := 661) (by decide +kernel) rfl (.inl rfl) rfl rfl ?_
  refine kV.al (n := 0) (i := 0) 0 (by decide +kernel) rfl rfl ?_
  refine kV.bp (n := 60) (nI 60) (by decide +kernel) (by decide +kernel) ?_
  refine kV.aI 60 (by decide +kernel) (h := 390) (by decide +kernel) (by decide +kernel) rfl rfl (Nat.le_of_ble_eq_true rfl) (Nat.le_of_ble_eq_true rfl) (fun q46 => ?_)
  refine kV.pf (i := 32) 6 (by decide +kernel) (by decide) rfl (by decide) (Nat.le_of_ble_eq_true rfl) (h := 663) (by decide +kernel) rfl (.inl rfl) rfl rfl ?_
  refine kV.al (n := 0) (i := 0) 0 (by decide +kernel) rfl rfl ?_
  refine kV.bp (n := 60) (nI 60) (by decide +kernel) (by decide +kernel) ?_
  refine kV.aI 60 (by decide +kernel) (h := 390) (by decide +kernel) (by decide +kernel) rfl rfl (Nat.le_of_ble_eq_true rfl) (Nat.le_of_ble_eq_true rfl) (fun q54 => ?_)
  refine kV.pf (i := 35) 7 (by decide +kernel) (by decide) rfl (by decide) (Nat.le_of_ble_eq_true rfl) (h := 665) (by decide +kernel) rfl (.inl rfl) rfl rfl ?_
  exact kV.rt (by decide +kernel) rfl (Nat.le_of_ble_eq_true rfl) (Nat.le_of_ble_eq_true rfl) ⟨fun i => [q, q22, q30, q38, q46, q54].getD i 0, rfl⟩
