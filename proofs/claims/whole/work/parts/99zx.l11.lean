/-! the law: from its entry -/
set_option maxRecDepth 100000 in
set_option maxHeartbeats 4000000 in
theorem whole_start {p : Program} {e : Env} {s : State} {m : MethodId} {below : List Frame} {meth : Method} {c : Code} (l : Launch) (hflags : l.flags = flags0) {b L : Nat} {xs : Nat → Int32} (hL : L ≤ 3072) (C0 : lw_At p s m meth c b L xs) : W p l e room_1 s m #[Value.ref b] below meth c s.heap [] 0 0 (lw_Z below #[Value.ref b] s) (entryFrame m ([Value.ref b] : List Value).toArray 4) := by
  obtain ⟨E, hE, hK, hk, hq⟩ := k_start C0.2.2.2.2.2.1 C0.2.2.2.2.2.2.2.2.2
  have G : gW E b L xs 0 0 0 [(0, .ref b)] [] [] := by
    refine gW.nw (i := 7) (h := 277) (h' := 278) (h'' := 257) 11 (by decide +kernel) (by decide) (by decide +kernel) (by decide +kernel) (by decide +kernel) (by decide +kernel) (by decide +kernel) (fun q => ?_)
    refine gW.du (by decide +kernel) rfl ?_
    refine gW.ct (k' := 137) (i := 9) (h := 279) (rest := [.ref q]) (k_FC E q) (by decide +kernel) (by decide +kernel) (by decide +kernel) rfl rfl rfl (by decide) (by decide +kernel) (by decide +kernel) (Nat.le_of_ble_eq_true rfl) (fun w hw => ?_)
    obtain ⟨a, u, f6, h6, rfl⟩ := hw
    refine gW.as (n := 1) (i := 1) (lo' := [(1, .ref q), (0, .ref b)]) (by decide +kernel) rfl (by decide) rfl ?_
    refine gW.nw (i := 10) (h := 1716) (h' := 1717) (h'' := 273) 12 (by decide +kernel) (by decide) (by decide +kernel) (by decide +kernel) (by decide +kernel) (by decide +kernel) (by decide +kernel) (fun q' => ?_)
    refine gW.du (by decide +kernel) rfl ?_
    refine gW.ct (k' := 208) (i := 12) (h := 1718) (rest := [.ref q']) (k_Model E q') (by decide +kernel) (by decide +kernel) (by decide +kernel) rfl rfl rfl (by decide) (by decide +kernel) (by decide +kernel) (Nat.le_of_ble_eq_true rfl) (fun w hw => ?_)
    obtain ⟨a', f, g, hf, hg, rfl⟩ := hw
    refine gW.as (n := 2) (i := 2) (lo' := [(2, .ref q'), (1, .ref q), (0, .ref b)]) (by decide +kernel) rfl (by decide) rfl ?_
    refine gW.ic (n := 0) (nI 0) (by decide +kernel) rfl ?_
    refine gW.is (n := 3) (i := 3) (lo' := [(3, .int (nI 0)), (2, .ref q'), (1, .ref q), (0, .ref b)]) (by decide +kernel) rfl (by decide) rfl ?_
    refine gW.nm (w := kW E q q' a u a' f6 f g) ?_
    have h := g_loop (E := kE' E (kW E q q' a u a' f6 f g)) (b := b) (xs := xs) (nc := 0 + 1 + 138 + 1 + 18) (ns := 0 + qnf 11 + 3929 + qnf 12 + 5587) hL (by decide +kernel) (by decide +kernel) (L + 1) 0 (kS f6 f g) (by omega) (Nat.zero_le L) ⟨zA0, zXA0 h6, zMA0 hf hg, zAW0⟩
    rw [← kqAll] at h
    exact h
  have hl := lv_entry ([.ref b]) (n := 4) (Nat.le_of_ble_eq_true rfl)
  rw [lg_entry_eq]
  exact G p l e s m below meth c ⟨C0, hK, hk, hq, hE⟩ s.heap [] _ (fun k q h => by simp at h) ⟨fun i j p q h => by simp at h, fun k q h => by simp at h⟩ va_S.rf hl
