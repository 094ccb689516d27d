/-! the reference's calls: odds, trays -/
theorem qCI.mono {d k : Nat} {a : List qPV} {σ : qSg} {P P' : Int32 → qSg → Prop} (h : qCI d k a σ P) (hm : ∀ r σ', P r σ' → P' r σ') : qCI d k a σ P' := ⟨h.1, fun l E p e h1 h2 h3 s m args below h4 h5 h6 h7 => by
  obtain ⟨n, o, c1, c2, c3, ⟨⟨r, u, d1, d2, d3⟩, d4⟩, d5⟩ := h.2 l E p e h1 h2 h3 s m args below h4 h5 h6 h7
  exact ⟨n, o, c1, c2, c3, ⟨⟨r, u, d1, hm r u d2, d3⟩, d4⟩, d5⟩⟩
theorem qCL.mono {d k : Nat} {a : List qPV} {σ : qSg} {P P' : Int64 → qSg → Prop} (h : qCL d k a σ P) (hm : ∀ r σ', P r σ' → P' r σ') : qCL d k a σ P' := ⟨h.1, fun l E p e h1 h2 h3 s m args below h4 h5 h6 h7 => by
  obtain ⟨n, o, c1, c2, c3, ⟨⟨r, u, d1, d2, d3⟩, d4⟩, d5⟩ := h.2 l E p e h1 h2 h3 s m args below h4 h5 h6 h7
  exact ⟨n, o, c1, c2, c3, ⟨⟨r, u, d1, hm r u d2, d3⟩, d4⟩, d5⟩⟩
theorem zRef_tell {σ : qSg} {n d : Nat} : zRef σ (ztell σ n d) := ((zG.wl (by decide)).tr (zG.wl (by decide))).tr (zG.wi (by decide))
theorem zMA.tell {σ : qSg} {A : zA} (h : zMA σ A) (hW : zAW A) (n d : Nat) : zMA (ztell σ n d) (sS (sF A (zfrac n d)) 0) := by
  have hW0 := hW
  have h0 := h
  obtain ⟨w1, w2, w3, -⟩ := hW
  obtain ⟨h1, h2, h3, h4, h5, h6, h7, h8, h9, h10⟩ := h
  refine zMA.st (A := sF A (zfrac n d)) ?_ hW0 0
  have e2 : ∀ a j, a ≠ 139 → (qwl (qwl σ 139 3 (lN (n / Nat.gcd n d))) 139 4 (lN (d / Nat.gcd n d))).2 a j = σ.2 a j := fun a j hn => by rw [qwl_2, if_neg (fun hh => hn hh.1), qwl_2, if_neg (fun hh => hn hh.1)]
  refine ⟨h1.kp w1 (fun j hj => rfl) (fun j hj => e2 _ _ (by decide)), h2, fun i i1 i2 => (h3 i i1 i2).kp (w3 i i1 i2) (fun j hj => rfl) (fun j hj => e2 _ _ (by decide)), h4.kp (fun j => rfl) (fun j => rfl) (fun j => e2 _ _ (by decide)), h5, ⟨?_, ?_⟩, h7, h8, h9, h10⟩
  · rw [qwl_2, if_neg (by decide), qwl_2, if_pos ⟨rfl, rfl⟩]; rfl
  · rw [qwl_2, if_pos ⟨rfl, rfl⟩]; rfl
theorem M_night {σ : qSg} {A : zA} (hA : zMA σ A) (hW : zAW A) (k : Int32) : qCI 4 350 [qr 139, qi k] σ (zCall σ (yNight A k)) := by
  refine (m_night hA.m hW.w k).mono fun r σ' h => ?_
  unfold yNight
  cases e : zih k 0 10 with
  | true =>
    rw [e, if_pos rfl] at h
    obtain ⟨σ1, rfl, rfl, f⟩ := h
    rw [if_neg (by decide)]
    have h1 : zMA σ1 A := hA.sm hW (zSm.g f (fun _ _ h => h.elim) (fun a j h => by unfold zRn at h; unfold zKq; omega))
    refine ⟨rfl, h1.tell hW _ _, zG.tr ?_ zRef_tell⟩
    exact zRef.g f (fun _ _ h => h.elim) (fun a j h => by unfold zRn at h; omega)
  | false =>
    rw [e, if_neg (by decide)] at h
    obtain ⟨rfl, rfl⟩ := h
    rw [if_pos rfl]
    exact ⟨rfl, hA.st hW 1, zRef.st⟩
theorem M_wakes {σ : qSg} {A : zA} (hA : zMA σ A) (hW : zAW A) (b : Int32) : qCI 5 351 [qr 139, qi b] σ (zCall σ (yWakes A b)) := by
  refine (m_wakes hA.m hW.w b).mono fun r σ' h => ?_
  unfold yWakes
  cases e : zrg b (aC A 0 0) with
  | true =>
    rw [e, if_pos rfl] at h
    obtain ⟨rfl, rfl⟩ := h
    rw [if_neg (by decide)]
    exact ⟨rfl, hA.tell hW _ _, zRef_tell⟩
  | false =>
    rw [e, if_neg (by decide)] at h
    obtain ⟨rfl, rfl⟩ := h
    rw [if_pos rfl]
    exact ⟨rfl, hA.st hW 1, zRef.st⟩
def zPtr (a : Nat) (_ : Nat) : Prop := a = 142 ∨ a = 143
def zRtr (a : Nat) (_ : Nat) : Prop := a = 144
/-- other trays -/
theorem zMA.t {σ σ' : qSg} {A : zA} (h : zMA σ A) (hW : zAW A) {T : zT} (f : zG zPtr zRtr σ σ') (hT : zMT σ' T) : zMA σ' (sT A T) ∧ zRef σ σ' := by
  refine ⟨?_, zRef.g f (fun a j h => by unfold zPtr at h; omega) (fun a j h => by unfold zRtr at h; omega)⟩
  obtain ⟨w1, w2, w3, -⟩ := hW
  obtain ⟨h1, h2, h3, h4, h5, h6, h7, h8, h9, h10⟩ := h
  have e : ∀ a j, a ≠ 142 → a ≠ 143 → σ'.1 a j = σ.1 a j := fun a j h1 h2 => f.1 a j (by unfold zPtr; omega)
  have e2 : ∀ a j, a ≠ 144 → σ'.2 a j = σ.2 a j := fun a j h1 => f.2 a j (by unfold zRtr; omega)
  refine ⟨h1.kp w1 (fun j hj => e _ _ (by decide) (by decide)) (fun j hj => e2 _ _ (by decide)), ?_, fun i i1 i2 => (h3 i i1 i2).kp (w3 i i1 i2) (fun j hj => e _ _ (by decide) (by decide)) (fun j hj => e2 _ _ (by decide)), hT, ⟨?_, fun j hj => ?_⟩, ⟨?_, ?_⟩, ?_, ⟨?_, ?_⟩, ⟨?_, fun hd j hj => ?_⟩, fun j hj => ?_⟩
  · rw [e _ _ (by decide) (by decide)]; exact h2
  · rw [e _ _ (by decide) (by decide)]; exact h5.1
  · rw [e _ _ (by decide) (by decide)]; exact h5.2 j hj
  · rw [e2 _ _ (by decide)]; exact h6.1
  · rw [e2 _ _ (by decide)]; exact h6.2
  · rw [e _ _ (by decide) (by decide)]; exact h7
  · rw [e _ _ (by decide) (by decide)]; exact h8.1
  · rw [e _ _ (by decide) (by decide)]; exact h8.2
  · rw [e _ _ (by decide) (by decide)]; exact h9.1
  · rw [e _ _ (by decide) (by decide)]; exact h9.2 hd j hj
  · rw [e _ _ (by decide) (by decide)]; exact h10 j hj
theorem zAW.t {A : zA} (h : zAW A) {T : zT} (hT : zTW T) : zAW (sT A T) := ⟨h.1, h.2.1, h.2.2.1, hT, h.2.2.2.2⟩
theorem zTW_lay {T : zT} (h : zTW T) {t s n : Nat} (hs : s ≤ 3) (hn : n ≤ 60) : zTW (zTlay T t s n) := by
  intro a ha
  have := h a ha
  refine ⟨?_, fun m hm => ?_⟩
  · show (if a = t then s else T.1 a) ≤ 3
    split
    · exact hs
    · exact this.1
  · have hm : (if a = t then some n else T.2.1 a) = some m := hm
    split at hm
    · cases hm; exact hn
    · exact this.2 m hm
theorem ztok_ok {t s n : Int32} (h : ztok t s n = true) : s.toInt.toNat ≤ 3 ∧ n.toInt.toNat ≤ 60 := by
  unfold ztok at h
  simp only [Bool.and_eq_true] at h
  obtain ⟨b, -, hb, rfl⟩ := zih_nI h.1.2
  obtain ⟨c, -, hc, rfl⟩ := zih_nI h.2
  rw [nI_tn (by omega), nI_tn (by omega)]
  exact ⟨hb, hc⟩
theorem M_tray {σ : qSg} {A : zA} (hA : zMA σ A) (hW : zAW A) (t s n : Int32) : qCI 2 220 [qr 139, qi t, qi s, qi n] σ (zCall σ (yTray A t s n)) := by
  refine (m_tray hA.2.2.2.1 hW.2.2.2.1 t s n).mono fun r σ' h => ?_
  obtain ⟨rfl, σ1, rfl, hT, f⟩ := h
  unfold yTray
  cases e : ztok t s n with
  | true =>
    simp only [e, if_true] at hT ⊢
    have S := hA.t hW f hT
    have o := ztok_ok e
    exact ⟨rfl, S.1.st (hW.t (zTW_lay hW.2.2.2.1 o.1 o.2)) 0, S.2.tr zRef.st⟩
  | false =>
    simp only [e, Bool.false_eq_true, if_false] at hT ⊢
    have S := hA.t hW f hT
    exact ⟨rfl, S.1.st (hW.t hW.2.2.2.1) 1, S.2.tr zRef.st⟩
theorem M_write {σ : qSg} {A : zA} (hA : zMA σ A) (hW : zAW A) (t p : Int32) (v : Int64) : qCI 3 222 [qr 139, qi t, qi p, ql v] σ (zCall σ (yWrite A t p v)) := by
  refine (m_write hA.2.2.2.1 hW.2.2.2.1 t p v).mono fun r σ' h => ?_
  obtain ⟨rfl, σ1, rfl, hT, f⟩ := h
  have f' : zG zPtr zRtr σ σ1 := f.wk (fun _ _ h => h.elim) (fun _ _ h => h)
  unfold yWrite
  by_cases e : zwp (aT A) t p = 0
  · simp only [e, if_true] at hT ⊢
    have S := hA.t hW f' hT
    exact ⟨rfl, S.1.st (hW.t (fun a ha => hW.2.2.2.1 a ha)) 0, S.2.tr zRef.st⟩
  · simp only [e, if_false] at hT ⊢
    have S := hA.t hW f' hT
    exact ⟨rfl, S.1.st (hW.t hW.2.2.2.1) _, S.2.tr zRef.st⟩
theorem M_read {σ : qSg} {A : zA} (hA : zMA σ A) (hW : zAW A) (t p : Int32) : qCL 3 223 [qr 139, qi t, qi p] σ (zCallL σ (yRead A t p)) := by
  refine (m_read hA.2.2.2.1 hW.2.2.2.1 t p).mono fun r σ' h => ?_
  obtain ⟨rfl, rfl⟩ := h
  exact ⟨rfl, hA.st hW _, zRef.st⟩
