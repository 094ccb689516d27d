/-! the pure machine's steps are the machine's -/
theorem qlg_some : ∀ (lo : qLo) (i : Nat) {v : qPV}, qlg lo i = v → v ≠ .inr (.inr none) → lo[i]? = some (some v)
  | [], i, v, h, hv => absurd h.symm (by simpa [qlg] using hv)
  | a :: t, 0, v, h, hv => by
    cases a with
    | none => exact absurd h.symm (by simpa [qlg] using hv)
    | some w => simp only [qlg, Option.getD_some] at h; rw [h]; rfl
  | a :: t, n + 1, v, h, hv => by simpa using qlg_some t n h hv
theorem qls_spec : ∀ (lo : qLo) (i : Nat) (v : qPV) (j : Nat) (w : qPV), (qls lo i v)[j]? = some (some w) →
    (j = i ∧ w = v) ∨ (j ≠ i ∧ lo[j]? = some (some w) ∧ (j + 1 = i → qil w = false) ∧ (qil v = true → j ≠ i + 1))
  | [], i, v, j, w, h => by simp [qls] at h
  | a :: t, 0, v, j, w, h => by
    simp only [qls, qls0] at h
    cases j with
    | zero => exact Or.inl ⟨rfl, by simpa using h.symm⟩
    | succ j =>
      refine Or.inr ⟨by omega, ?_, by omega, ?_⟩
      · simp only [List.getElem?_cons_succ] at h ⊢
        split at h
        · cases t with
          | nil => simp at h
          | cons b t' =>
            cases j with
            | zero => simp at h
            | succ j => simpa using h
        · exact h
      · intro hv hj
        have hj0 : j = 0 := by omega
        subst hj0
        rw [if_pos hv] at h
        cases t <;> simp at h
  | a :: t, n + 1, v, j, w, h => by
    simp only [qls] at h
    cases j with
    | zero =>
      simp only [List.getElem?_cons_zero, Option.some.injEq] at h
      refine Or.inr ⟨by omega, ?_, ?_, by omega⟩
      · by_cases hn : n = 0
        · rw [if_pos hn] at h
          unfold qkl at h
          split at h
          · cases h
          · simpa using h
        · rw [if_neg hn] at h; simpa using h
      · intro hn
        have hn0 : n = 0 := by omega
        rw [if_pos hn0] at h
        unfold qkl at h
        split at h
        · cases h
        · rename_i hne
          subst h
          unfold qil
          split
          · exact absurd rfl (hne _)
          · rfl
    | succ j =>
      simp only [List.getElem?_cons_succ] at h
      rcases qls_spec t n v j w h with ⟨h1, h2⟩ | ⟨h1, h2, h3, h4⟩
      · exact Or.inl ⟨by omega, h2⟩
      · exact Or.inr ⟨by omega, by simpa using h2, fun e => h3 (by omega), fun e => by have := h4 e; omega⟩
def qLR (E : qE) (lo : qLo) (ls : Array Slot) (nL : Nat) : Prop := ls.size = nL ∧ lv_wf ls ∧ ∀ (i : Nat) (v : qPV), lo[i]? = some (some v) → ls[i]? = some (.val (qTV E.2.1 v))
def qmkl (E : qE) (lo : qLo) : List (Nat × Value) := (List.range lo.length).filterMap (fun i => match lo[i]? with | some (some v) => some (i, qTV E.2.1 v) | _ => none)
theorem qmkl_mem {E : qE} {lo : qLo} {q : Nat × Value} : q ∈ qmkl E lo ↔ ∃ v, lo[q.1]? = some (some v) ∧ q.2 = qTV E.2.1 v := by
  unfold qmkl
  rw [List.mem_filterMap]
  constructor
  · rintro ⟨i, hi, h⟩
    split at h
    · rename_i v hv
      cases h
      exact ⟨v, hv, rfl⟩
    · cases h
  · rintro ⟨v, h1, h2⟩
    refine ⟨q.1, List.mem_range.mpr (List.getElem?_eq_some_iff.mp h1).1, ?_⟩
    rw [h1]
    simp only
    rw [← h2]
theorem qLR_has {E : qE} {lo : qLo} {ls : Array Slot} {nL : Nat} (h : qLR E lo ls nL) : lv_has ls nL (qmkl E lo) := by
  refine ⟨h.1, h.2.1, fun q hq => ?_⟩
  obtain ⟨v, h1, h2⟩ := qmkl_mem.mp hq
  rw [h2]
  exact h.2.2 _ _ h1
theorem qTV_cat (ad : Nat → Nat) (v : qPV) : (qTV ad v).category = if qil v then 2 else 1 := by
  rcases v with x | x | _ | k <;> rfl
theorem qLR_st1 {E : qE} {lo : qLo} {ls' : Array Slot} {nL i : Nat} {v : qPV} (hv : qil v = false) (h : lv_has ls' nL ((i, qTV E.2.1 v) :: (qmkl E lo).filter (fun q => !(q.1 == i) && !(q.1 + 1 == i && q.2.category == 2)))) : qLR E (qls lo i v) ls' nL := by
  refine ⟨h.1, h.2.1, fun j w hj => ?_⟩
  rcases qls_spec lo i v j w hj with ⟨rfl, rfl⟩ | ⟨h1, h2, h3, -⟩
  · exact h.2.2 (j, qTV E.2.1 w) List.mem_cons_self
  · refine h.2.2 (j, qTV E.2.1 w) (List.mem_cons_of_mem _ (List.mem_filter.mpr ⟨qmkl_mem.mpr ⟨w, h2, rfl⟩, ?_⟩))
    simp only [Bool.and_eq_true, Bool.not_eq_true', beq_eq_false_iff_ne, ne_eq, Bool.and_eq_false_iff]
    refine ⟨h1, ?_⟩
    by_cases hj1 : j + 1 = i
    · right
      rw [qTV_cat, h3 hj1]
      simp
    · exact Or.inl hj1
theorem qLR_st2 {E : qE} {lo : qLo} {ls' : Array Slot} {nL i : Nat} {v : qPV} (hv : qil v = true) (h : lv_has ls' nL ((i, qTV E.2.1 v) :: (qmkl E lo).filter (fun q => !(q.1 == i) && (!(q.1 == i + 1) && !(q.1 + 1 == i && q.2.category == 2))))) : qLR E (qls lo i v) ls' nL := by
  refine ⟨h.1, h.2.1, fun j w hj => ?_⟩
  rcases qls_spec lo i v j w hj with ⟨rfl, rfl⟩ | ⟨h1, h2, h3, h4⟩
  · exact h.2.2 (j, qTV E.2.1 w) List.mem_cons_self
  · refine h.2.2 (j, qTV E.2.1 w) (List.mem_cons_of_mem _ (List.mem_filter.mpr ⟨qmkl_mem.mpr ⟨w, h2, rfl⟩, ?_⟩))
    simp only [Bool.and_eq_true, Bool.not_eq_true', beq_eq_false_iff_ne, ne_eq, Bool.and_eq_false_iff]
    refine ⟨h1, h4 hv, ?_⟩
    by_cases hj1 : j + 1 = i
    · right
      rw [qTV_cat, h3 hj1]
      simp
    · exact Or.inl hj1
-- the world's cells
theorem qKd_lt {a : Nat} (h : (qKd a).1 ≠ 0 ∨ (qKd a).2 ≠ 0) : a < qKL.length := by
  rcases Nat.lt_or_ge a qKL.length with q | q
  · exact q
  · have e : qKd a = (0, 0) := by unfold qKd; rw [List.getD_eq_getElem?_getD, List.getElem?_eq_none q]; rfl
    rw [e] at h
    simp at h
theorem qws_at (E : qE) (σ : qSg) {a : Nat} (ha : a < qKL.length) : (qws E σ)[a]? = some (E.2.1 a, qent E σ a) := by
  simp [qws, ha]
theorem qws_set (E : qE) {σ σ' : qSg} {a : Nat} (h : ∀ b, b ≠ a → qent E σ' b = qent E σ b) : (qws E σ).set a (E.2.1 a, qent E σ' a) = qws E σ' := by
  apply List.ext_getElem?
  intro k
  rw [List.getElem?_set]
  by_cases hk : a = k
  · subst hk
    rw [if_pos rfl]
    by_cases hl : a < qKL.length
    · rw [if_pos (by simpa [qws] using hl), qws_at E σ' hl]
    · rw [if_neg (by simpa [qws] using hl)]
      simp [qws, hl]
  · rw [if_neg hk]
    by_cases hl : k < qKL.length
    · rw [qws_at E σ hl, qws_at E σ' hl, h k (fun e => hk e.symm)]
    · simp [qws, hl]
theorem qobj_n : ∀ a, a < qKL.length → 10 ≤ (qKd a).1 → (qKd a).2 = qnf ((qKd a).1 - 10) := by decide +kernel
theorem qent_obj (E : qE) (σ : qSg) {a c : Nat} (h : (qKd a).1 = 10 + c) : qent E σ a = .inr (c, (List.range (qnf c)).map (fun j => qfv E σ c a j)) := by
  have h1 : 10 ≤ (qKd a).1 := by omega
  have h2 : (qKd a).1 - 10 = c := by omega
  have h3 := qobj_n a (qKd_lt (Or.inl (by omega))) h1
  unfold qent
  rw [if_pos h1, h3, h2]
theorem qent_i (E : qE) (σ : qSg) {a t : Nat} (h : (qKd a).1 = t) (ht : t = 0 ∨ t = 2 ∨ t = 3) : qent E σ a = .inl (E.2.2.1 t, (qKd a).2, .inl (σ.1 a)) := by
  unfold qent
  rw [if_neg (by omega), if_neg (by omega), if_neg (by omega), h]
theorem qent_l (E : qE) (σ : qSg) {a : Nat} (h : (qKd a).1 = 1) : qent E σ a = .inl (E.2.2.1 1, (qKd a).2, .inr (.inl (σ.2 a))) := by
  unfold qent
  rw [if_neg (by omega), if_pos h, h]
theorem qent_r (E : qE) (σ : qSg) {a t : Nat} (h : (qKd a).1 = t) (ht : t = 4 ∨ t = 5) : qent E σ a = .inl (E.2.2.1 t, (qKd a).2, .inr (.inr (.inr (.inr fun j => (qRf a j).map E.2.1)))) := by
  unfold qent
  rw [if_neg (by omega), if_neg (by omega), if_pos (by omega), h]
theorem qent_wi (E : qE) (σ : qSg) {a k : Nat} {x : Int32} : ∀ b, b ≠ a → qent E (qwi σ a k x) b = qent E σ b := by
  intro b hb
  have e1 : (qwi σ a k x).1 b = σ.1 b := by funext j; simp [qwi, hb]
  have e2 : (qwi σ a k x).2 = σ.2 := rfl
  have e3 : ∀ c j, qfv E (qwi σ a k x) c b j = qfv E σ c b j := fun c j => by simp only [qfv, qfl, e1, e2]
  simp only [qent, e1, e2, e3]
theorem qent_wl (E : qE) (σ : qSg) {a k : Nat} {x : Int64} : ∀ b, b ≠ a → qent E (qwl σ a k x) b = qent E σ b := by
  intro b hb
  have e1 : (qwl σ a k x).2 b = σ.2 b := by funext j; simp [qwl, hb]
  have e2 : (qwl σ a k x).1 = σ.1 := rfl
  have e3 : ∀ c j, qfv E (qwl σ a k x) c b j = qfv E σ c b j := fun c j => by simp only [qfv, qfl, e1, e2]
  simp only [qent, e1, e2, e3]
theorem qmap_set {α : Type} (f : Nat → α) (n k : Nat) (v : α) : ((List.range n).map f).set k v = (List.range n).map (fun j => if j = k then v else f j) := by
  apply List.ext_getElem?
  intro j
  rw [List.getElem?_set]
  by_cases h : k = j
  · subst h
    by_cases hk : k < n <;> simp [hk]
  · by_cases hj : j < n
    · simp [h, hj, Ne.symm h]
    · simp [h, hj]
theorem qent_wiO (E : qE) (σ : qSg) {a c k : Nat} {x : Int32} (h : (qKd a).1 = 10 + c) (hf : qft c k = 0 ∨ qft c k = 3) :
    Sum.inr (c, ((List.range (qnf c)).map (fun j => qfv E σ c a j)).set k (.int x)) = qent E (qwi σ a k x) a := by
  rw [qent_obj E _ h, qmap_set]
  congr 2
  apply List.map_congr_left
  intro j _
  by_cases hj : j = k
  · subst hj
    rw [if_pos rfl]
    simp only [qfv, qfl]
    rw [if_neg (by omega), if_neg (by omega)]
    simp [qwi, qTV]
  · rw [if_neg hj]
    simp [qfv, qfl, qwi, hj]
theorem qent_wlO (E : qE) (σ : qSg) {a c k : Nat} {x : Int64} (h : (qKd a).1 = 10 + c) (hf : qft c k = 1) :
    Sum.inr (c, ((List.range (qnf c)).map (fun j => qfv E σ c a j)).set k (.long x)) = qent E (qwl σ a k x) a := by
  rw [qent_obj E _ h, qmap_set]
  congr 2
  apply List.map_congr_left
  intro j _
  by_cases hj : j = k
  · subst hj
    rw [if_pos rfl]
    simp only [qfv, qfl]
    rw [if_pos hf]
    simp [qwl, qTV]
  · rw [if_neg hj]
    simp [qfv, qfl, qwl, hj]
theorem qin_vp {i : Int32} {n : Nat} (h : qin i n) : vp_in i n := fun q => q.elim h.1 (fun q => absurd h.2 (by omega))
