/-! the rules: a walk of blocks, a method's contract, a call -/
def qst : List Nat → Nat → Bool
  | [], _ => false
  | a :: l, t => a == t || qst l t
def qJ (k d : Nat) (Q : qQ) (stop : List Nat) : Nat → Nat → qLo → List qPV → qSg → Prop
  | 0 => fun t lo st σ => qV k d Q t lo st σ
  | f + 1 => fun t lo st σ => if qst stop t = true then qV k d Q t lo st σ else qW d (qJ k d Q stop f) Q (qB k t) lo st σ
theorem qW_ok {k d : Nat} {Q : qQ} {J : Nat → qLo → List qPV → qSg → Prop} (hJ : ∀ t lo st σ, J t lo st σ → qV k d Q t lo st σ) :
    ∀ (is : List qIns) (pc : Nat), qbk (qMT k).2.2.2.2.1 (qMT k).2.2.1 (qMT k).2.2.2.1 (qMT k).2.1 pc is = true → ∀ lo st σ, qW d J Q is lo st σ → qV k d Q pc lo st σ
  | [], _, _, _, _, _, h => h.elim
  | x :: xs, pc, hb, lo, st, σ, h => by
    simp only [qbk, Bool.and_eq_true] at hb
    obtain ⟨h1, h2⟩ := hb
    simp only [qik, Bool.or_eq_true, Bool.and_eq_true, decide_eq_true_eq] at h1
    rcases h1 with rfl | ⟨⟨h3, h4⟩, h5⟩
    · exact hJ _ _ _ _ h
    · exact qX_ok h3 h4 h5 hJ (fun lo st σ hh => qW_ok hJ xs (pc + x.2.1) h2 lo st σ hh) h
theorem qlook {l : List (Nat × List qIns)} {a : Nat} {b : List qIns} (h : l.lookup a = some b) : (a, b) ∈ l := by
  induction l with
  | nil => simp at h
  | cons x t ih =>
    obtain ⟨x1, x2⟩ := x
    rw [List.lookup_cons] at h
    split at h
    · rename_i hh
      have e1 : a = x1 := by simpa using hh
      cases h
      rw [e1]
      exact List.mem_cons_self
    · exact List.mem_cons_of_mem _ (ih h)
theorem qB_ok {k : Nat} (hg : qgood k) (pc : Nat) : qbk (qMT k).2.2.2.2.1 (qMT k).2.2.1 (qMT k).2.2.2.1 (qMT k).2.1 pc (qB k pc) = true := by
  unfold qB
  cases h : List.lookup pc (qMT k).2.2.2.2.2.2.2.2 with
  | none => rfl
  | some b => exact List.all_eq_true.mp hg.2.2 _ (qlook h)
theorem qJ_ok {k d : Nat} {Q : qQ} {stop : List Nat} (hg : qgood k) : ∀ (f t : Nat) (lo : qLo) (st : List qPV) (σ : qSg), qJ k d Q stop f t lo st σ → qV k d Q t lo st σ
  | 0, _, _, _, _, h => h
  | f + 1, t, lo, st, σ, h => by
    unfold qJ at h
    split at h
    · exact h
    · exact qW_ok (qJ_ok hg f) _ _ (qB_ok hg t) lo st σ h
/-- from pc on, through at most f blocks, till a place in 'stop' -/
theorem qV.go {k d : Nat} {Q : qQ} {pc : Nat} {lo : qLo} {st : List qPV} {σ : qSg} (f : Nat) (stop : List Nat) (hg : qgood k) (h : qW d (qJ k d Q stop f) Q (qB k pc) lo st σ) : qV k d Q pc lo st σ :=
  qW_ok (qJ_ok hg f) _ _ (qB_ok hg pc) lo st σ h
def qel : List qPV → qLo
  | [] => []
  | v :: t => if qil v then some v :: none :: qel t else some v :: qel t
def qlo0 (n : Nat) (a : List qPV) : qLo := qel a ++ List.replicate (n - (qel a).length) none
theorem qel_sl (ad : Nat → Nat) : ∀ a : List qPV, (lg_sl (a.map (qTV ad))).length = (qel a).length
  | [] => rfl
  | v :: t => by
    have ih := qel_sl ad t
    simp only [lg_sl, List.map_cons, List.flatMap_cons, List.length_append] at ih ⊢
    rw [ih, qTV_cat, show qel (v :: t) = if qil v = true then some v :: none :: qel t else some v :: qel t from rfl]
    by_cases hv : qil v = true
    · rw [if_pos hv, if_pos hv]; simp; omega
    · rw [if_neg hv, if_neg hv]; simp; omega
theorem qel_args (ad : Nat → Nat) : ∀ (a : List qPV) (o i : Nat) (v : qPV), (qel a)[i]? = some (some v) → (o + i, qTV ad v) ∈ lv_args o (a.map (qTV ad))
  | [], o, i, v, h => by simp [qel] at h
  | w :: t, o, i, v, h => by
    simp only [List.map_cons, lv_args]
    unfold qel at h
    rw [qTV_cat]
    by_cases hw : qil w = true
    · rw [if_pos hw] at h ⊢
      match i, h with
      | 0, h =>
        simp only [List.getElem?_cons_zero, Option.some.injEq] at h
        subst h
        exact List.mem_cons_self
      | 1, h => simp at h
      | i + 2, h =>
        have := qel_args ad t (o + 2) i v (by simpa using h)
        rw [show o + (i + 2) = o + 2 + i by omega]
        exact List.mem_cons_of_mem _ (by simpa using this)
    · rw [if_neg hw] at h ⊢
      match i, h with
      | 0, h =>
        simp only [List.getElem?_cons_zero, Option.some.injEq] at h
        subst h
        exact List.mem_cons_self
      | i + 1, h =>
        have := qel_args ad t (o + 1) i v (by simpa using h)
        rw [show o + (i + 1) = o + 1 + i by omega]
        exact List.mem_cons_of_mem _ (by simpa using this)
theorem qLR_entry (E : qE) {n : Nat} {a : List qPV} (hl : (qel a).length ≤ n) : qLR E (qlo0 n a) ((lg_sl (a.map (qTV E.2.1)) ++ List.replicate (n - (lg_sl (a.map (qTV E.2.1))).length) Slot.unset).toArray) n := by
  have h := lv_entry (a.map (qTV E.2.1)) (n := n) (by rw [qel_sl]; exact hl)
  refine ⟨h.1, h.2.1, fun i v hi => ?_⟩
  refine h.2.2 (i, qTV E.2.1 v) ?_
  unfold qlo0 at hi
  by_cases hii : i < (qel a).length
  · rw [List.getElem?_append_left hii] at hi
    have := qel_args E.2.1 a 0 i v hi
    rwa [Nat.zero_add] at this
  · rw [List.getElem?_append_right (by omega)] at hi
    rw [List.getElem?_replicate] at hi
    split at hi <;> simp at hi
theorem qmk_of {k : Nat} (hg : qgood k) : plainName (qMT k).1.cls = true ∧ (qMT k).1.cls = qCN (qMT k).2.2.2.2.1 := by
  obtain ⟨hmk, -, -⟩ := hg
  simp only [qmk, Bool.and_eq_true, decide_eq_true_eq] at hmk
  exact ⟨hmk.1.1.1.2, hmk.1.1.1.1.1.2⟩
theorem qC_of {k d : Nat} {a : List qPV} {σ : qSg} {Q : qQ} (hg : qgood k) (hl : (qel a).length ≤ (qMT k).2.2.1) (h : qV k d Q 0 (qlo0 (qMT k).2.2.1 a) [] σ) (l : Launch) (E : qE) :
    Met l (qMT k).1 (qAW (qMT k)) (qRm d) (va_Pc (a.map (qTV E.2.1)) (qWU E σ)) (qQc E Q) 0 0 (qA E) := by
  refine Met.ofW (cc := (qMT k).2.1) (maxL := (qMT k).2.2.1) (ret := (qMT k).2.2.2.1) (qmk_of hg).1 rfl ?_
  intro p e s m args below meth c s₁ B hml hv
  obtain ⟨rfl, hP, hK, hD, hStr, hbs⟩ := hv
  have hts := atoms_spec (ws := qAW (qMT k)) B.pre
  have hown : s.vm.findClass (qCN (qMT k).2.2.2.2.1) = some m.cls := by
    rw [← (qmk_of hg).2]
    exact findClass_of_methodNamed B.named
  rw [lg_entry_eq]
  exact h p l e s m _ below meth c E ⟨B.exec, B.bytes, hml, B.returns, B.notSynchronized, hown, fun w hw => hts w (List.mem_cons_of_mem _ hw), hK, hStr, hbs⟩ s.heap [] _ hP hD va_S.rf (qLR_entry E hl)
theorem qCI.of {k d : Nat} {a : List qPV} {σ : qSg} {Q : Int32 → qSg → Prop} (lo : qLo) (hg : qgood k) (hl : (qel a).length ≤ (qMT k).2.2.1) (hlo : qlo0 (qMT k).2.2.1 a = lo) (h : qV k d (.inl Q) 0 lo [] σ) : qCI d k a σ Q := ⟨hg, fun l E => qC_of hg hl (by rw [hlo]; exact h) l E⟩
theorem qCL.of {k d : Nat} {a : List qPV} {σ : qSg} {Q : Int64 → qSg → Prop} (lo : qLo) (hg : qgood k) (hl : (qel a).length ≤ (qMT k).2.2.1) (hlo : qlo0 (qMT k).2.2.1 a = lo) (h : qV k d (.inr (.inl Q)) 0 lo [] σ) : qCL d k a σ Q := ⟨hg, fun l E => qC_of hg hl (by rw [hlo]; exact h) l E⟩
theorem qCV.of {k d : Nat} {a : List qPV} {σ : qSg} {Q : qSg → Prop} (lo : qLo) (hg : qgood k) (hl : (qel a).length ≤ (qMT k).2.2.1) (hlo : qlo0 (qMT k).2.2.1 a = lo) (h : qV k d (.inr (.inr Q)) 0 lo [] σ) : qCV d k a σ Q := ⟨hg, fun l E => qC_of hg hl (by rw [hlo]; exact h) l E⟩
-- a contract used at a call
theorem qBI.of {d d' k : Nat} {a : List qPV} {σ : qSg} {P Q : Int32 → qSg → Prop} (h : qCI d' k a σ P) (hd : d' < d) (hk : ∀ r σ', P r σ' → Q r σ') : qBI d k a σ Q := ⟨d', P, hd, h, hk⟩
theorem qBL.of {d d' k : Nat} {a : List qPV} {σ : qSg} {P Q : Int64 → qSg → Prop} (h : qCL d' k a σ P) (hd : d' < d) (hk : ∀ r σ', P r σ' → Q r σ') : qBL d k a σ Q := ⟨d', P, hd, h, hk⟩
theorem qBV.of {d d' k : Nat} {a : List qPV} {σ : qSg} {P Q : qSg → Prop} (h : qCV d' k a σ P) (hd : d' < d) (hk : ∀ σ', P σ' → Q σ') : qBV d k a σ Q := ⟨d', P, hd, h, hk⟩
/-- a method that only answers -/
def qFI (d k : Nat) (a : List qPV) (σ : qSg) (v : Int32) : Prop := qCI d k a σ (fun r σ' => r = v ∧ σ' = σ)
def qFL (d k : Nat) (a : List qPV) (σ : qSg) (v : Int64) : Prop := qCL d k a σ (fun r σ' => r = v ∧ σ' = σ)
theorem qBI.fn {d d' k : Nat} {a : List qPV} {σ : qSg} {v : Int32} {Q : Int32 → qSg → Prop} (h : qFI d' k a σ v) (hd : d' < d) (hk : Q v σ) : qBI d k a σ Q := ⟨d', _, hd, h, fun r σ' hh => by obtain ⟨rfl, rfl⟩ := hh; exact hk⟩
theorem qBL.fn {d d' k : Nat} {a : List qPV} {σ : qSg} {v : Int64} {Q : Int64 → qSg → Prop} (h : qFL d' k a σ v) (hd : d' < d) (hk : Q v σ) : qBL d k a σ Q := ⟨d', _, hd, h, fun r σ' hh => by obtain ⟨rfl, rfl⟩ := hh; exact hk⟩
-- rows for simp: locals, constants, the shape of values
theorem qlg_0 (v : qPV) (t : qLo) : qlg (some v :: t) 0 = v := rfl
theorem qlg_s (h : Option qPV) (t : qLo) (n : Nat) : qlg (h :: t) (n + 1) = qlg t n := rfl
theorem qls_i0 (h : Option qPV) (t : qLo) (x : Int32) : qls (h :: t) 0 (.inl x) = some (.inl x) :: t := rfl
theorem qls_r0 (h : Option qPV) (t : qLo) (x : Option Nat) : qls (h :: t) 0 (.inr (.inr x)) = some (.inr (.inr x)) :: t := rfl
theorem qls_l0 (h h2 : Option qPV) (t : qLo) (x : Int64) : qls (h :: h2 :: t) 0 (.inr (.inl x)) = some (.inr (.inl x)) :: none :: t := rfl
theorem qls_1 (h : Option qPV) (t : qLo) (v : qPV) : qls (h :: t) 1 v = qkl h :: qls t 0 v := rfl
theorem qls_2 (h : Option qPV) (t : qLo) (n : Nat) (v : qPV) : qls (h :: t) (n + 2) v = h :: qls t (n + 1) v := rfl
theorem qkl_i (x : Int32) : qkl (some (.inl x)) = some (.inl x) := rfl
theorem qkl_r (x : Option Nat) : qkl (some (.inr (.inr x))) = some (.inr (.inr x)) := rfl
theorem qkl_l (x : Int64) : qkl (some (.inr (.inl x))) = none := rfl
theorem qkl_n : qkl none = none := rfl
theorem qIsI_i (x : Int32) : qIsI (.inl x) = True := rfl
theorem qIsL_l (x : Int64) : qIsL (.inr (.inl x)) = True := rfl
theorem qIsR_r (x : Nat) : qIsR (.inr (.inr (some x))) = True := rfl
theorem qint_i (x : Int32) : qint (.inl x) = x := rfl
theorem qil_i (x : Int32) : qil (.inl x) = false := rfl
theorem qil_r (x : Option Nat) : qil (.inr (.inr x)) = false := rfl
theorem qil_l (x : Int64) : qil (.inr (.inl x)) = true := rfl
theorem qf4_0 : ((0 : Fin 4) : Nat) = 0 := rfl
theorem qf4_1 : ((1 : Fin 4) : Nat) = 1 := rfl
theorem qf4_2 : ((2 : Fin 4) : Nat) = 2 := rfl
theorem qf4_3 : ((3 : Fin 4) : Nat) = 3 := rfl
theorem qf2_0 : ((0 : Fin 2) : Nat) = 0 := rfl
theorem qf2_1 : ((1 : Fin 2) : Nat) = 1 := rfl
theorem qcs_n : qcs [] = 0 := rfl
theorem qcs_i (x : Int32) (t : List qPV) : qcs (.inl x :: t) = 1 + qcs t := rfl
theorem qcs_r (x : Option Nat) (t : List qPV) : qcs (.inr (.inr x) :: t) = 1 + qcs t := rfl
theorem qcs_l (x : Int64) (t : List qPV) : qcs (.inr (.inl x) :: t) = 2 + qcs t := rfl
theorem qst_n (t : Nat) : qst [] t = false := rfl
theorem qst_c (a : Nat) (l : List Nat) (t : Nat) : qst (a :: l) t = (a == t || qst l t) := rfl
theorem qJ_0 {k d : Nat} {Q : qQ} {stop : List Nat} (t : Nat) (lo : qLo) (st : List qPV) (σ : qSg) : qJ k d Q stop 0 t lo st σ = qV k d Q t lo st σ := rfl
theorem qJ_st {k d : Nat} {Q : qQ} {stop : List Nat} (f t : Nat) (lo : qLo) (st : List qPV) (σ : qSg) (h : qst stop t = true) : qJ k d Q stop (f + 1) t lo st σ = qV k d Q t lo st σ := if_pos h
theorem qJ_go {k d : Nat} {Q : qQ} {stop : List Nat} (f t : Nat) (lo : qLo) (st : List qPV) (σ : qSg) (h : qst stop t = false) : qJ k d Q stop (f + 1) t lo st σ = qW d (qJ k d Q stop f) Q (qB k t) lo st σ := if_neg (by rw [h]; decide)
theorem qfl_I (σ : qSg) (a k : Nat) : qfl σ a k 0 = .inl (σ.1 a k) := rfl
theorem qfl_Z (σ : qSg) (a k : Nat) : qfl σ a k 3 = .inl (σ.1 a k) := rfl
theorem qfl_L (σ : qSg) (a k : Nat) : qfl σ a k 1 = .inr (.inl (σ.2 a k)) := rfl
theorem qfl_R (σ : qSg) (a k : Nat) : qfl σ a k 2 = .inr (.inr (qRf a k)) := rfl
theorem qrI_i (q : Int32 → qSg → Prop) (x : Int32) (σ : qSg) : qrI (.inl q) x σ = q x σ := rfl
theorem qrL_l (q : Int64 → qSg → Prop) (x : Int64) (σ : qSg) : qrL (.inr (.inl q)) x σ = q x σ := rfl
theorem qrV_v (q : qSg → Prop) (σ : qSg) : qrV (.inr (.inr q)) σ = q σ := rfl
theorem qRcv_0 (a : List qPV) : qRcv 0 a = True := by
  unfold qRcv
  split <;> simp
theorem qRcv_s (c a : Nat) (t : List qPV) : qRcv (c + 1) (.inr (.inr (some a)) :: t) = (if c = 90 then a = 1000 else (qKd a).1 = 10 + c) := by
  simp only [qRcv, Nat.add_one_ne_zero, if_false, Nat.add_right_cancel_iff, show (91 : Nat) = 90 + 1 from rfl]
  rw [show 9 + (c + 1) = 10 + c by omega]
theorem qnI0 (x : Int32) : (x = 0) = (x = nI 0) := by rw [nI_0]
