/-! constructors: what else the class makes, in straight lines -/
def kL0 (E : qE) (q : Nat) (a : Nat → Nat) (b : Nat → Nat) : va_W := [(q, .inr (0, [.ref (a 1), .ref (a 2), .ref (a 3), .int (iI (-1))]))] ++ kL1 E (a 1) b ++ [(a 2, .inl (E.2.2.1 0, 8, .inl fun _ => 0))] ++ [(a 3, .inl (E.2.2.1 0, 10, .inl fun _ => 0))]
set_option maxRecDepth 20000 in
theorem k_Ahead (E : qE) (q : Nat) : kC 3 0 14 131 E [.ref q] [(q, .inr (0, kdf 0))] (fun w => ∃ a b, w = kL0 E q a b) := by
  refine kC.of (by decide +kernel) (Nat.le_of_ble_eq_true rfl) (fun A => ?_)
  refine kV.al (n := 0) (i := 0) 0 (by decide +kernel) rfl rfl ?_
  refine kV.oi (i := 3) (by decide +kernel) (h := 396) (by decide +kernel) (by decide) ?_
  refine kV.al (n := 0) (i := 0) 0 (by decide +kernel) rfl rfl ?_
  refine kV.aN (i := 9) 1 (by decide +kernel) (by decide) (h := 397) (by decide +kernel) (h' := 286) (by decide +kernel) (h'' := 258) (by decide +kernel) (Nat.le_of_ble_eq_true rfl) (Nat.le_of_ble_eq_true rfl) (fun q5 => ?_)
  refine kV.du (by decide +kernel) rfl ?_
  refine kV.cT (i := 11) (k' := 7) (As := []) (rest := [_, _]) (k_Camp E q5) (by decide +kernel) (by decide +kernel) rfl (h := 398) (by decide +kernel) rfl rfl rfl (by decide) (Nat.le_of_ble_eq_true rfl) (Nat.le_of_ble_eq_true rfl) (Nat.le_of_ble_eq_true rfl) (fun w9 b9 => ?_)
  obtain ⟨b, rfl⟩ := b9
  refine kV.pf (i := 12) 0 (by decide +kernel) (by decide) rfl (by decide) (Nat.le_of_ble_eq_true rfl) (h := 399) (by decide +kernel) rfl (.inl rfl) rfl rfl ?_
  refine kV.al (n := 0) (i := 0) 0 (by decide +kernel) rfl rfl ?_
  refine kV.bp (n := 8) (nI 8) (by decide +kernel) (by decide +kernel) ?_
  refine kV.aI 8 (by decide +kernel) (h := 390) (by decide +kernel) (by decide +kernel) rfl rfl (Nat.le_of_ble_eq_true rfl) (Nat.le_of_ble_eq_true rfl) (fun q18 => ?_)
  refine kV.pf (i := 18) 1 (by decide +kernel) (by decide) rfl (by decide) (Nat.le_of_ble_eq_true rfl) (h := 401) (by decide +kernel) rfl (.inl rfl) rfl rfl ?_
  refine kV.al (n := 0) (i := 0) 0 (by decide +kernel) rfl rfl ?_
  refine kV.bp (n := 10) (nI 10) (by decide +kernel) (by decide +kernel) ?_
  refine kV.aI 10 (by decide +kernel) (h := 390) (by decide +kernel) (by decide +kernel) rfl rfl (Nat.le_of_ble_eq_true rfl) (Nat.le_of_ble_eq_true rfl) (fun q26 => ?_)
  refine kV.pf (i := 22) 2 (by decide +kernel) (by decide) rfl (by decide) (Nat.le_of_ble_eq_true rfl) (h := 404) (by decide +kernel) rfl (.inl rfl) rfl rfl ?_
  refine kV.al (n := 0) (i := 0) 0 (by decide +kernel) rfl rfl ?_
  refine kV.ic (n := -1) (iI (-1)) (by decide +kernel) rfl ?_
  refine kV.pf (i := 25) 3 (by decide +kernel) (by decide) rfl (by decide) (Nat.le_of_ble_eq_true rfl) (h := 406) (by decide +kernel) rfl (.inl rfl) rfl rfl ?_
  exact kV.rt (by decide +kernel) rfl (Nat.le_of_ble_eq_true rfl) (Nat.le_of_ble_eq_true rfl) ⟨fun i => [q, q5, q18, q26].getD i 0, b, rfl⟩
def kL2 (E : qE) (q : Nat) (tx : Nat) (a : Nat → Nat) (b : Nat → Nat) : va_W := [(q, .inr (2, [.ref tx, .ref (a 1), .int (nI 0), .int (nI 0)]))] ++ kL1 E (a 1) b
set_option maxRecDepth 20000 in
theorem k_CampReader (E : qE) (q : Nat) (tx : Nat) : kC 3 33 12 113 E [.ref q, .ref tx] [(q, .inr (2, kdf 2))] (fun w => ∃ a b, w = kL2 E q tx a b) := by
  refine kC.of (by decide +kernel) (Nat.le_of_ble_eq_true rfl) (fun A => ?_)
  refine kV.al (n := 0) (i := 0) 0 (by decide +kernel) rfl rfl ?_
  refine kV.oi (i := 3) (by decide +kernel) (h := 620) (by decide +kernel) (by decide) ?_
  refine kV.al (n := 0) (i := 0) 0 (by decide +kernel) rfl rfl ?_
  refine kV.aN (i := 9) 1 (by decide +kernel) (by decide) (h := 621) (by decide +kernel) (h' := 286) (by decide +kernel) (h'' := 258) (by decide +kernel) (Nat.le_of_ble_eq_true rfl) (Nat.le_of_ble_eq_true rfl) (fun q5 => ?_)
  refine kV.du (by decide +kernel) rfl ?_
  refine kV.cT (i := 11) (k' := 7) (As := []) (rest := [_, _]) (k_Camp E q5) (by decide +kernel) (by decide +kernel) rfl (h := 622) (by decide +kernel) rfl rfl rfl (by decide) (Nat.le_of_ble_eq_true rfl) (Nat.le_of_ble_eq_true rfl) (Nat.le_of_ble_eq_true rfl) (fun w9 b9 => ?_)
  obtain ⟨b, rfl⟩ := b9
  refine kV.pf (i := 12) 1 (by decide +kernel) (by decide) rfl (by decide) (Nat.le_of_ble_eq_true rfl) (h := 624) (by decide +kernel) rfl (.inl rfl) rfl rfl ?_
  refine kV.al (n := 0) (i := 0) 0 (by decide +kernel) rfl rfl ?_
  refine kV.ic (n := 0) (nI 0) (by decide +kernel) rfl ?_
  refine kV.pf (i := 18) 2 (by decide +kernel) (by decide) rfl (by decide) (Nat.le_of_ble_eq_true rfl) (h := 626) (by decide +kernel) rfl (.inl rfl) rfl rfl ?_
  refine kV.al (n := 0) (i := 0) 0 (by decide +kernel) rfl rfl ?_
  refine kV.ic (n := 0) (nI 0) (by decide +kernel) rfl ?_
  refine kV.pf (i := 22) 3 (by decide +kernel) (by decide) rfl (by decide) (Nat.le_of_ble_eq_true rfl) (h := 627) (by decide +kernel) rfl (.inl rfl) rfl rfl ?_
  refine kV.al (n := 0) (i := 0) 0 (by decide +kernel) rfl rfl ?_
  refine kV.al (n := 1) (i := 1) 1 (by decide +kernel) rfl rfl ?_
  refine kV.pf (i := 25) 0 (by decide +kernel) (by decide) rfl (by decide) (Nat.le_of_ble_eq_true rfl) (h := 623) (by decide +kernel) rfl (.inl rfl) rfl rfl ?_
  exact kV.rt (by decide +kernel) rfl (Nat.le_of_ble_eq_true rfl) (Nat.le_of_ble_eq_true rfl) ⟨fun i => [q, q5].getD i 0, b, rfl⟩
def kL3 (E : qE) (q : Nat) (tr : Nat) (ah : Nat) (a : Nat → Nat) : va_W := [(q, .inr (3, [.ref tr, .ref ah, .ref (a 1), .ref (a 2), .int (nI 0), .ref (a 3)]))] ++ [(a 1, .inl (E.2.2.1 0, 20, .inl fun _ => 0))] ++ [(a 2, .inl (E.2.2.1 0, 20, .inl fun _ => 0))] ++ [(a 3, .inl (E.2.2.1 0, 248, .inl fun _ => 0))]
set_option maxRecDepth 20000 in
theorem k_Clues (E : qE) (q : Nat) (tr : Nat) (ah : Nat) : kC 2 40 3 288 E [.ref q, .ref tr, .ref ah] [(q, .inr (3, kdf 3))] (fun w => ∃ a, w = kL3 E q tr ah a) := by
  refine kC.of (by decide +kernel) (Nat.le_of_ble_eq_true rfl) (fun A => ?_)
  refine kV.al (n := 0) (i := 0) 0 (by decide +kernel) rfl rfl ?_
  refine kV.oi (i := 3) (by decide +kernel) (h := 439) (by decide +kernel) (by decide) ?_
  refine kV.al (n := 0) (i := 0) 0 (by decide +kernel) rfl rfl ?_
  refine kV.bp (n := 20) (nI 20) (by decide +kernel) (by decide +kernel) ?_
  refine kV.aI 20 (by decide +kernel) (h := 390) (by decide +kernel) (by decide +kernel) rfl rfl (Nat.le_of_ble_eq_true rfl) (Nat.le_of_ble_eq_true rfl) (fun q7 => ?_)
  refine kV.pf (i := 9) 2 (by decide +kernel) (by decide) rfl (by decide) (Nat.le_of_ble_eq_true rfl) (h := 442) (by decide +kernel) rfl (.inl rfl) rfl rfl ?_
  refine kV.al (n := 0) (i := 0) 0 (by decide +kernel) rfl rfl ?_
  refine kV.bp (n := 20) (nI 20) (by decide +kernel) (by decide +kernel) ?_
  refine kV.aI 20 (by decide +kernel) (h := 390) (by decide +kernel) (by decide +kernel) rfl rfl (Nat.le_of_ble_eq_true rfl) (Nat.le_of_ble_eq_true rfl) (fun q15 => ?_)
  refine kV.pf (i := 15) 3 (by decide +kernel) (by decide) rfl (by decide) (Nat.le_of_ble_eq_true rfl) (h := 443) (by decide +kernel) rfl (.inl rfl) rfl rfl ?_
  refine kV.al (n := 0) (i := 0) 0 (by decide +kernel) rfl rfl ?_
  refine kV.ic (n := 0) (nI 0) (by decide +kernel) rfl ?_
  refine kV.pf (i := 18) 4 (by decide +kernel) (by decide) rfl (by decide) (Nat.le_of_ble_eq_true rfl) (h := 444) (by decide +kernel) rfl (.inl rfl) rfl rfl ?_
  refine kV.al (n := 0) (i := 0) 0 (by decide +kernel) rfl rfl ?_
  refine kV.sp (n := 248) (nI 248) (by decide +kernel) (by decide +kernel) ?_
  refine kV.aI 248 (by decide +kernel) (h := 390) (by decide +kernel) (by decide +kernel) rfl rfl (Nat.le_of_ble_eq_true rfl) (Nat.le_of_ble_eq_true rfl) (fun q29 => ?_)
  refine kV.pf (i := 22) 5 (by decide +kernel) (by decide) rfl (by decide) (Nat.le_of_ble_eq_true rfl) (h := 445) (by decide +kernel) rfl (.inl rfl) rfl rfl ?_
  refine kV.al (n := 0) (i := 0) 0 (by decide +kernel) rfl rfl ?_
  refine kV.al (n := 1) (i := 1) 1 (by decide +kernel) rfl rfl ?_
  refine kV.pf (i := 25) 0 (by decide +kernel) (by decide) rfl (by decide) (Nat.le_of_ble_eq_true rfl) (h := 440) (by decide +kernel) rfl (.inl rfl) rfl rfl ?_
  refine kV.al (n := 0) (i := 0) 0 (by decide +kernel) rfl rfl ?_
  refine kV.al (n := 2) (i := 2) 2 (by decide +kernel) rfl rfl ?_
  refine kV.pf (i := 29) 1 (by decide +kernel) (by decide) rfl (by decide) (Nat.le_of_ble_eq_true rfl) (h := 441) (by decide +kernel) rfl (.inl rfl) rfl rfl ?_
  exact kV.rt (by decide +kernel) rfl (Nat.le_of_ble_eq_true rfl) (Nat.le_of_ble_eq_true rfl) ⟨fun i => [q, q7, q15, q29].getD i 0, rfl⟩
def kL4 (E : qE) (q : Nat) (tr : Nat) (ah : Nat) (a : Nat → Nat) : va_W := [(q, .inr (4, [.ref tr, .ref ah]))]
set_option maxRecDepth 20000 in
theorem k_Games (E : qE) (q : Nat) (tr : Nat) (ah : Nat) : kC 2 50 0 0 E [.ref q, .ref tr, .ref ah] [(q, .inr (4, kdf 4))] (fun w => ∃ a, w = kL4 E q tr ah a) := by
  refine kC.of (by decide +kernel) (Nat.le_of_ble_eq_true rfl) (fun A => ?_)
  refine kV.al (n := 0) (i := 0) 0 (by decide +kernel) rfl rfl ?_
  refine kV.oi (i := 3) (by decide +kernel) (h := 464) (by decide +kernel) (by decide) ?_
  refine kV.al (n := 0) (i := 0) 0 (by decide +kernel) rfl rfl ?_
  refine kV.al (n := 1) (i := 1) 1 (by decide +kernel) rfl rfl ?_
  refine kV.pf (i := 9) 0 (by decide +kernel) (by decide) rfl (by decide) (Nat.le_of_ble_eq_true rfl) (h := 465) (by decide +kernel) rfl (.inl rfl) rfl rfl ?_
  refine kV.al (n := 0) (i := 0) 0 (by decide +kernel) rfl rfl ?_
  refine kV.al (n := 2) (i := 2) 2 (by decide +kernel) rfl rfl ?_
  refine kV.pf (i := 15) 1 (by decide +kernel) (by decide) rfl (by decide) (Nat.le_of_ble_eq_true rfl) (h := 466) (by decide +kernel) rfl (.inl rfl) rfl rfl ?_
  exact kV.rt (by decide +kernel) rfl (Nat.le_of_ble_eq_true rfl) (Nat.le_of_ble_eq_true rfl) ⟨fun i => [q].getD i 0, rfl⟩
def kL5 (E : qE) (q : Nat) (a : Nat → Nat) : va_W := [(q, .inr (5, [.int (nI 0), .int (nI 0), .int (nI 0), .int (nI 0), .int (nI 0), .int (nI 0), .int (nI 0), .ref (a 1)]))] ++ [(a 1, .inl (E.2.2.1 0, 60, .inl fun _ => 0))]
set_option maxRecDepth 20000 in
theorem k_Life (E : qE) (q : Nat) : kC 2 62 1 60 E [.ref q] [(q, .inr (5, kdf 5))] (fun w => ∃ a, w = kL5 E q a) := by
  refine kC.of (by decide +kernel) (Nat.le_of_ble_eq_true rfl) (fun A => ?_)
  refine kV.al (n := 0) (i := 0) 0 (by decide +kernel) rfl rfl ?_
  refine kV.oi (i := 3) (by decide +kernel) (h := 705) (by decide +kernel) (by decide) ?_
  refine kV.al (n := 0) (i := 0) 0 (by decide +kernel) rfl rfl ?_
  refine kV.ic (n := 0) (nI 0) (by decide +kernel) rfl ?_
  refine kV.pf (i := 9) 0 (by decide +kernel) (by decide) rfl (by decide) (Nat.le_of_ble_eq_true rfl) (h := 706) (by decide +kernel) rfl (.inl rfl) rfl rfl ?_
  refine kV.al (n := 0) (i := 0) 0 (by decide +kernel) rfl rfl ?_
  refine kV.ic (n := 0) (nI 0) (by decide +kernel) rfl ?_
  refine kV.pf (i := 15) 1 (by decide +kernel) (by decide) rfl (by decide) (Nat.le_of_ble_eq_true rfl) (h := 708) (by decide +kernel) rfl (.inl rfl) rfl rfl ?_
  refine kV.al (n := 0) (i := 0) 0 (by decide +kernel) rfl rfl ?_
  refine kV.ic (n := 0) (nI 0) (by decide +kernel) rfl ?_
  refine kV.pf (i := 18) 2 (by decide +kernel) (by decide) rfl (by decide) (Nat.le_of_ble_eq_true rfl) (h := 710) (by decide +kernel) rfl (.inl rfl) rfl rfl ?_
  refine kV.al (n := 0) (i := 0) 0 (by decide +kernel) rfl rfl ?_
  refine kV.ic (n := 0) (nI 0) (by decide +kernel) rfl ?_
  refine kV.pf (i := 21) 3 (by decide +kernel) (by decide) rfl (by decide) (Nat.le_of_ble_eq_true rfl) (h := 712) (by decide +kernel) rfl (.inl rfl) rfl rfl ?_
  refine kV.al (n := 0) (i := 0) 0 (by decide +kernel) rfl rfl ?_
  refine kV.ic (n := 0) (nI 0) (by decide +kernel) rfl ?_
  refine kV.pf (i := 24) 4 (by decide +kernel) (by decide) rfl (by decide) (Nat.le_of_ble_eq_true rfl) (h := 714) (by decide +kernel) rfl (.inl rfl) rfl rfl ?_
  refine kV.al (n := 0) (i := 0) 0 (by decide +kernel) rfl rfl ?_
  refine kV.ic (n := 0) (nI 0) (by decide +kernel) rfl ?_
  refine kV.pf (i := 27) 5 (by decide +kernel) (by decide) rfl (by decide) (Nat.le_of_ble_eq_true rfl) (h := 716) (by decide +kernel) rfl (.inl rfl) rfl rfl ?_
  refine kV.al (n := 0) (i := 0) 0 (by decide +kernel) rfl rfl ?_
  refine kV.ic (n := 0) (nI 0) (by decide +kernel) rfl ?_
  refine kV.pf (i := 31) 6 (by decide +kernel) (by decide) rfl (by decide) (Nat.le_of_ble_eq_true rfl) (h := 718) (by decide +kernel) rfl (.inl rfl) rfl rfl ?_
  refine kV.al (n := 0) (i := 0) 0 (by decide +kernel) rfl rfl ?_
  refine kV.bp (n := 60) (nI 60) (by decide +kernel) (by decide +kernel) ?_
  refine kV.aI 60 (by decide +kernel) (h := 390) (by decide +kernel) (by decide +kernel) rfl rfl (Nat.le_of_ble_eq_true rfl) (Nat.le_of_ble_eq_true rfl) (fun q42 => ?_)
  refine kV.pf (i := 34) 7 (by decide +kernel) (by decide) rfl (by decide) (Nat.le_of_ble_eq_true rfl) (h := 719) (by decide +kernel) rfl (.inl rfl) rfl rfl ?_
  exact kV.rt (by decide +kernel) rfl (Nat.le_of_ble_eq_true rfl) (Nat.le_of_ble_eq_true rfl) ⟨fun i => [q, q42].getD i 0, rfl⟩
def kL6 (E : qE) (q : Nat) (tr : Nat) (ah : Nat) (a : Nat → Nat) : va_W := [(q, .inr (6, [.ref tr, .ref ah, .int (nI 0)]))]
set_option maxRecDepth 20000 in
theorem k_Plans (E : qE) (q : Nat) (tr : Nat) (ah : Nat) : kC 2 74 0 0 E [.ref q, .ref tr, .ref ah] [(q, .inr (6, kdf 6))] (fun w => ∃ a, w = kL6 E q tr ah a) := by
  refine kC.of (by decide +kernel) (Nat.le_of_ble_eq_true rfl) (fun A => ?_)
  refine kV.al (n := 0) (i := 0) 0 (by decide +kernel) rfl rfl ?_
  refine kV.oi (i := 3) (by decide +kernel) (h := 422) (by decide +kernel) (by decide) ?_
  refine kV.al (n := 0) (i := 0) 0 (by decide +kernel) rfl rfl ?_
  refine kV.ic (n := 0) (nI 0) (by decide +kernel) rfl ?_
  refine kV.pf (i := 9) 2 (by decide +kernel) (by decide) rfl (by decide) (Nat.le_of_ble_eq_true rfl) (h := 425) (by decide +kernel) rfl (.inl rfl) rfl rfl ?_
  refine kV.al (n := 0) (i := 0) 0 (by decide +kernel) rfl rfl ?_
  refine kV.al (n := 1) (i := 1) 1 (by decide +kernel) rfl rfl ?_
  refine kV.pf (i := 15) 0 (by decide +kernel) (by decide) rfl (by decide) (Nat.le_of_ble_eq_true rfl) (h := 423) (by decide +kernel) rfl (.inl rfl) rfl rfl ?_
  refine kV.al (n := 0) (i := 0) 0 (by decide +kernel) rfl rfl ?_
  refine kV.al (n := 2) (i := 2) 2 (by decide +kernel) rfl rfl ?_
  refine kV.pf (i := 19) 1 (by decide +kernel) (by decide) rfl (by decide) (Nat.le_of_ble_eq_true rfl) (h := 424) (by decide +kernel) rfl (.inl rfl) rfl rfl ?_
  exact kV.rt (by decide +kernel) rfl (Nat.le_of_ble_eq_true rfl) (Nat.le_of_ble_eq_true rfl) ⟨fun i => [q].getD i 0, rfl⟩
def kL10 (E : qE) (q : Nat) (tx : Nat) (a : Nat → Nat) (b : Nat → Nat) : va_W := [(q, .inr (10, [.ref tx, .ref (a 1), .ref (a 2), .int (nI 0)]))] ++ kL9 E (a 1) b ++ [(a 2, .inl (E.2.2.1 0, 3, .inl fun _ => 0))]
set_option maxRecDepth 20000 in
theorem k_WeeksReader (E : qE) (q : Nat) (tx : Nat) : kC 3 126 7 311 E [.ref q, .ref tx] [(q, .inr (10, kdf 10))] (fun w => ∃ a b, w = kL10 E q tx a b) := by
  refine kC.of (by decide +kernel) (Nat.le_of_ble_eq_true rfl) (fun A => ?_)
  refine kV.al (n := 0) (i := 0) 0 (by decide +kernel) rfl rfl ?_
  refine kV.oi (i := 3) (by decide +kernel) (h := 642) (by decide +kernel) (by decide) ?_
  refine kV.al (n := 0) (i := 0) 0 (by decide +kernel) rfl rfl ?_
  refine kV.aN (i := 9) 9 (by decide +kernel) (by decide) (h := 643) (by decide +kernel) (h' := 644) (by decide +kernel) (h'' := 271) (by decide +kernel) (Nat.le_of_ble_eq_true rfl) (Nat.le_of_ble_eq_true rfl) (fun q5 => ?_)
  refine kV.du (by decide +kernel) rfl ?_
  refine kV.cN (i := 11) (k' := 119) (As := []) (rest := [_, _]) (k_Weeks E q5) (by decide +kernel) (by decide +kernel) rfl (fun U h => h.2.2.2.1) rfl rfl rfl (by decide) (Nat.le_of_ble_eq_true rfl) (Nat.le_of_ble_eq_true rfl) (Nat.le_of_ble_eq_true rfl) (fun w9 b9 => ?_)
  obtain ⟨b, rfl⟩ := b9
  refine kV.pf (i := 12) 1 (by decide +kernel) (by decide) rfl (by decide) (Nat.le_of_ble_eq_true rfl) (h := 685) (by decide +kernel) rfl (.inl rfl) rfl rfl ?_
  refine kV.al (n := 0) (i := 0) 0 (by decide +kernel) rfl rfl ?_
  refine kV.ic (n := 3) (nI 3) (by decide +kernel) rfl ?_
  refine kV.aI 3 (by decide +kernel) (h := 390) (by decide +kernel) (by decide +kernel) rfl rfl (Nat.le_of_ble_eq_true rfl) (Nat.le_of_ble_eq_true rfl) (fun q17 => ?_)
  refine kV.pf (i := 18) 2 (by decide +kernel) (by decide) rfl (by decide) (Nat.le_of_ble_eq_true rfl) (h := 687) (by decide +kernel) rfl (.inl rfl) rfl rfl ?_
  refine kV.al (n := 0) (i := 0) 0 (by decide +kernel) rfl rfl ?_
  refine kV.ic (n := 0) (nI 0) (by decide +kernel) rfl ?_
  refine kV.pf (i := 22) 3 (by decide +kernel) (by decide) rfl (by decide) (Nat.le_of_ble_eq_true rfl) (h := 688) (by decide +kernel) rfl (.inl rfl) rfl rfl ?_
  refine kV.al (n := 0) (i := 0) 0 (by decide +kernel) rfl rfl ?_
  refine kV.al (n := 1) (i := 1) 1 (by decide +kernel) rfl rfl ?_
  refine kV.pf (i := 26) 0 (by decide +kernel) (by decide) rfl (by decide) (Nat.le_of_ble_eq_true rfl) (h := 684) (by decide +kernel) rfl (.inl rfl) rfl rfl ?_
  exact kV.rt (by decide +kernel) rfl (Nat.le_of_ble_eq_true rfl) (Nat.le_of_ble_eq_true rfl) ⟨fun i => [q, q5, q17].getD i 0, b, rfl⟩
