/-! String.length, String.charAt: what the machine does there -/
def RS1 : String := "java/lang/StringLatin1"
def RS3 : String := "jdk/internal/util/Preconditions"
abbrev cJ0_coder_7d493 : ByteArray := prog_17_method_152_code
def yJ0_coder_7d493 : MethodName := ⟨RK90, "coder", "()B"⟩
abbrev cJ0_isLatin1_aae02 : ByteArray := prog_17_method_154_code
def yJ0_isLatin1_aae02 : MethodName := ⟨RK90, "isLatin1", "()Z"⟩
abbrev cJ0_checkIndex_df160 : ByteArray := prog_17_method_155_code
def yJ0_checkIndex_df160 : MethodName := ⟨RK90, "checkIndex", "(II)V"⟩
abbrev cJ1_charAt_3b067 : ByteArray := prog_18_method_2_code
def yJ1_charAt_3b067 : MethodName := ⟨RS1, "charAt", "([BI)C"⟩
abbrev cJ3_checkIndex_8e157 : ByteArray := prog_21_method_11_code
def yJ3_checkIndex_8e157 : MethodName := ⟨RS3, "checkIndex", "(IILjava/util/function/BiFunction;)I"⟩
theorem dJ0_length_8abf5_0 : decode cJ0_length_8abf5 0 = .ok (.aload_n 0, 1) := by decide +kernel
theorem dJ0_length_8abf5_1 : decode cJ0_length_8abf5 1 = .ok (.getfield 9, 3) := by decide +kernel
theorem dJ0_length_8abf5_4 : decode cJ0_length_8abf5 4 = .ok (.arraylength, 1) := by decide +kernel
theorem dJ0_length_8abf5_5 : decode cJ0_length_8abf5 5 = .ok (.aload_n 0, 1) := by decide +kernel
theorem dJ0_length_8abf5_6 : decode cJ0_length_8abf5 6 = .ok (.invokevirtual 335, 3) := by decide +kernel
theorem dJ0_length_8abf5_9 : decode cJ0_length_8abf5 9 = .ok (.ishr, 1) := by decide +kernel
theorem dJ0_length_8abf5_10 : decode cJ0_length_8abf5 10 = .ok (.ireturn, 1) := by decide +kernel
theorem dJ0_charAt_5068e_0 : decode cJ0_charAt_5068e 0 = .ok (.aload_n 0, 1) := by decide +kernel
theorem dJ0_charAt_5068e_1 : decode cJ0_charAt_5068e 1 = .ok (.invokevirtual 492, 3) := by decide +kernel
theorem dJ0_charAt_5068e_4 : decode cJ0_charAt_5068e 4 = .ok (.ifCond .eq 12, 3) := by decide +kernel
theorem dJ0_charAt_5068e_7 : decode cJ0_charAt_5068e 7 = .ok (.aload_n 0, 1) := by decide +kernel
theorem dJ0_charAt_5068e_8 : decode cJ0_charAt_5068e 8 = .ok (.getfield 9, 3) := by decide +kernel
theorem dJ0_charAt_5068e_11 : decode cJ0_charAt_5068e 11 = .ok (.iload_n 1, 1) := by decide +kernel
theorem dJ0_charAt_5068e_12 : decode cJ0_charAt_5068e 12 = .ok (.invokestatic 495, 3) := by decide +kernel
theorem dJ0_charAt_5068e_15 : decode cJ0_charAt_5068e 15 = .ok (.ireturn, 1) := by decide +kernel
theorem dJ0_charAt_5068e_16 : decode cJ0_charAt_5068e 16 = .ok (.aload_n 0, 1) := by decide +kernel
theorem dJ0_charAt_5068e_17 : decode cJ0_charAt_5068e 17 = .ok (.getfield 9, 3) := by decide +kernel
theorem dJ0_charAt_5068e_20 : decode cJ0_charAt_5068e 20 = .ok (.iload_n 1, 1) := by decide +kernel
theorem dJ0_charAt_5068e_21 : decode cJ0_charAt_5068e 21 = .ok (.invokestatic 498, 3) := by decide +kernel
theorem dJ0_charAt_5068e_24 : decode cJ0_charAt_5068e 24 = .ok (.ireturn, 1) := by decide +kernel
theorem dJ0_coder_7d493_0 : decode cJ0_coder_7d493 0 = .ok (.getstatic 38, 3) := by decide +kernel
theorem dJ0_coder_7d493_3 : decode cJ0_coder_7d493 3 = .ok (.ifCond .eq 10, 3) := by decide +kernel
theorem dJ0_coder_7d493_6 : decode cJ0_coder_7d493 6 = .ok (.aload_n 0, 1) := by decide +kernel
theorem dJ0_coder_7d493_7 : decode cJ0_coder_7d493 7 = .ok (.getfield 15, 3) := by decide +kernel
theorem dJ0_coder_7d493_10 : decode cJ0_coder_7d493 10 = .ok (.goto 4, 3) := by decide +kernel
theorem dJ0_coder_7d493_13 : decode cJ0_coder_7d493 13 = .ok (.iconst 1, 1) := by decide +kernel
theorem dJ0_coder_7d493_14 : decode cJ0_coder_7d493 14 = .ok (.ireturn, 1) := by decide +kernel
theorem dJ0_isLatin1_aae02_0 : decode cJ0_isLatin1_aae02 0 = .ok (.getstatic 38, 3) := by decide +kernel
theorem dJ0_isLatin1_aae02_3 : decode cJ0_isLatin1_aae02 3 = .ok (.ifCond .eq 14, 3) := by decide +kernel
theorem dJ0_isLatin1_aae02_6 : decode cJ0_isLatin1_aae02 6 = .ok (.aload_n 0, 1) := by decide +kernel
theorem dJ0_isLatin1_aae02_7 : decode cJ0_isLatin1_aae02 7 = .ok (.getfield 15, 3) := by decide +kernel
theorem dJ0_isLatin1_aae02_10 : decode cJ0_isLatin1_aae02 10 = .ok (.ifCond .ne 7, 3) := by decide +kernel
theorem dJ0_isLatin1_aae02_13 : decode cJ0_isLatin1_aae02 13 = .ok (.iconst 1, 1) := by decide +kernel
theorem dJ0_isLatin1_aae02_14 : decode cJ0_isLatin1_aae02 14 = .ok (.goto 4, 3) := by decide +kernel
theorem dJ0_isLatin1_aae02_17 : decode cJ0_isLatin1_aae02 17 = .ok (.iconst 0, 1) := by decide +kernel
theorem dJ0_isLatin1_aae02_18 : decode cJ0_isLatin1_aae02 18 = .ok (.ireturn, 1) := by decide +kernel
theorem dJ0_checkIndex_df160_0 : decode cJ0_checkIndex_df160 0 = .ok (.iload_n 0, 1) := by decide +kernel
theorem dJ0_checkIndex_df160_1 : decode cJ0_checkIndex_df160 1 = .ok (.iload_n 1, 1) := by decide +kernel
theorem dJ0_checkIndex_df160_2 : decode cJ0_checkIndex_df160 2 = .ok (.getstatic 1053, 3) := by decide +kernel
theorem dJ0_checkIndex_df160_5 : decode cJ0_checkIndex_df160 5 = .ok (.invokestatic 1059, 3) := by decide +kernel
theorem dJ0_checkIndex_df160_8 : decode cJ0_checkIndex_df160 8 = .ok (.pop, 1) := by decide +kernel
theorem dJ0_checkIndex_df160_9 : decode cJ0_checkIndex_df160 9 = .ok (.return_, 1) := by decide +kernel
theorem dJ1_charAt_3b067_0 : decode cJ1_charAt_3b067 0 = .ok (.iload_n 1, 1) := by decide +kernel
theorem dJ1_charAt_3b067_1 : decode cJ1_charAt_3b067 1 = .ok (.aload_n 0, 1) := by decide +kernel
theorem dJ1_charAt_3b067_2 : decode cJ1_charAt_3b067 2 = .ok (.arraylength, 1) := by decide +kernel
theorem dJ1_charAt_3b067_3 : decode cJ1_charAt_3b067 3 = .ok (.invokestatic 9, 3) := by decide +kernel
theorem dJ1_charAt_3b067_6 : decode cJ1_charAt_3b067 6 = .ok (.aload_n 0, 1) := by decide +kernel
theorem dJ1_charAt_3b067_7 : decode cJ1_charAt_3b067 7 = .ok (.iload_n 1, 1) := by decide +kernel
theorem dJ1_charAt_3b067_8 : decode cJ1_charAt_3b067 8 = .ok (.baload, 1) := by decide +kernel
theorem dJ1_charAt_3b067_9 : decode cJ1_charAt_3b067 9 = .ok (.sipush 255, 3) := by decide +kernel
theorem dJ1_charAt_3b067_12 : decode cJ1_charAt_3b067 12 = .ok (.iand, 1) := by decide +kernel
theorem dJ1_charAt_3b067_13 : decode cJ1_charAt_3b067 13 = .ok (.i2c, 1) := by decide +kernel
theorem dJ1_charAt_3b067_14 : decode cJ1_charAt_3b067 14 = .ok (.ireturn, 1) := by decide +kernel
theorem dJ3_checkIndex_8e157_0 : decode cJ3_checkIndex_8e157 0 = .ok (.iload_n 0, 1) := by decide +kernel
theorem dJ3_checkIndex_8e157_1 : decode cJ3_checkIndex_8e157 1 = .ok (.ifCond .lt 8, 3) := by decide +kernel
theorem dJ3_checkIndex_8e157_4 : decode cJ3_checkIndex_8e157 4 = .ok (.iload_n 0, 1) := by decide +kernel
theorem dJ3_checkIndex_8e157_5 : decode cJ3_checkIndex_8e157 5 = .ok (.iload_n 1, 1) := by decide +kernel
theorem dJ3_checkIndex_8e157_6 : decode cJ3_checkIndex_8e157 6 = .ok (.if_icmp .lt 10, 3) := by decide +kernel
theorem dJ3_checkIndex_8e157_9 : decode cJ3_checkIndex_8e157 9 = .ok (.aload_n 2, 1) := by decide +kernel
theorem dJ3_checkIndex_8e157_10 : decode cJ3_checkIndex_8e157 10 = .ok (.iload_n 0, 1) := by decide +kernel
theorem dJ3_checkIndex_8e157_11 : decode cJ3_checkIndex_8e157 11 = .ok (.iload_n 1, 1) := by decide +kernel
theorem dJ3_checkIndex_8e157_12 : decode cJ3_checkIndex_8e157 12 = .ok (.invokestatic 95, 3) := by decide +kernel
theorem dJ3_checkIndex_8e157_15 : decode cJ3_checkIndex_8e157 15 = .ok (.athrow, 1) := by decide +kernel
theorem dJ3_checkIndex_8e157_16 : decode cJ3_checkIndex_8e157 16 = .ok (.iload_n 0, 1) := by decide +kernel
theorem dJ3_checkIndex_8e157_17 : decode cJ3_checkIndex_8e157 17 = .ok (.ireturn, 1) := by decide +kernel
theorem s_cb {R : Room} {s : State} {args : Array Value} {own : String} {index : Nat} {y : MethodName} {bytes : ByteArray} {maxL n mc ms : Nat} {ret : Option FieldType} {rm : Room} (hts : ∀ w ∈ qAL, w.before args s = true) {h1 h2 h3 : Nat} (hl : qIs h1 (.methodLink own index y) = true) (hi : qIs h2 (.initialized y.cls) = true) (hc : qIs h3 (.code y bytes maxL ret) = true) (hy : y.cls ≠ "java/lang/invoke/MethodHandle" ∧ y.cls ≠ "java/lang/invoke/VarHandle") (hd : (parseMethodDescriptor y.desc).map (fun d => d.parameters.length) = some n) (hR : rm.frames + 1 ≤ R.frames ∧ 8 + (maxL + 11) + rm.locals ≤ R.locals) (hrc : rm.cells = mc) (hrs : rm.slots = ms) :
    CallB R s args own index y bytes maxL ret (.code y bytes maxL ret :: qAL) rm mc ms n := by
  refine ⟨hrc, hrs, hR.1, hR.2, fun w hw a' U hW => ?_, List.mem_cons_self, hts _ (qIs_in hc), hts _ (qIs_in hi), hy, fun sig h => ?_, hts _ (qIs_in hl)⟩
  · have hw' : w ∈ qAL := by
      rcases List.mem_cons.mp hw with rfl | h
      · exact qIs_in hc
      · exact h
    exact word_at hW (qAL_good hw') (hts w hw')
  · rw [h] at hd
    exact (Option.some.inj hd).symm
/-- a text constant at a, its bytes at v -/
def sW (a v : Nat) (byt : List Int32) (A : Nat → Prop) (U : State) : Prop := vk_S 1 [byt.length] [byt] (fun _ => a) (fun _ => v) A U U.heap ∧ va_Z "java/lang/String" "COMPACT_STRINGS" "Z" (.int 1) A U U.heap ∧ va_Zq "jdk/internal/util/Preconditions" "SIOOBE_FORMATTER" "Ljava/util/function/BiFunction;" A U U.heap
theorem sW_blind {a v : Nat} {byt : List Int32} {A : Nat → Prop} {av : List Value} : FrameBlind (va_Pc av (sW a v byt A)) := by
  intro x U g mk ⟨h0, h1, h2, h3⟩
  exact ⟨h0, vk_S.moved (u := U) (U := U.calling g mk x) (Vm.Alike.refl U.vm) h1, va_Z.moved (u := U) (U := U.calling g mk x) (Vm.Alike.refl U.vm) h2, va_Zq.moved (u := U) (U := U.calling g mk x) (Vm.Alike.refl U.vm) h3⟩
theorem sT_blind {av : List Value} : FrameBlind (va_Pc av (fun _ => True)) := by
  intro x U g mk ⟨h0, _⟩
  exact ⟨h0, trivial⟩
theorem sW_of {a v : Nat} {byt : List Int32} {A : Nat → Prop} {s U : State} {H : Heap} {locs : List Loc} (h : sW a v byt A s) (hS : va_S (fun _ => False) s.heap H locs) (hU : U.heap = H) (hW : s.WarmedH U.vm) : sW a v byt A U := by
  subst hU
  have kp : ∀ q : Nat, q < s.heap.size → ¬ A q → U.heap[q]? = s.heap[q]? := fun q h1 _ => hS.2.1 q h1 (fun h => h)
  exact ⟨(vk_S.moved hW.alike h.1).kept kp, (va_Z.moved hW.alike h.2.1).kept kp, (va_Zq.moved hW.alike h.2.2).kept kp⟩
theorem s_wk {A : Nat → Prop} {H0 H : Heap} {locs : List Loc} (hS : va_S (fun _ => False) H0 H locs) : va_S A H0 H locs := ⟨hS.1, fun q h1 _ => hS.2.1 q h1 (fun h => h), fun q hq => (hS.2.2 q hq).elim⟩
set_option maxRecDepth 100000 in
theorem c_coder (l : Launch) {a v : Nat} {byt : List Int32} {A : Nat → Prop} : Met l yJ0_coder_7d493 (.code yJ0_coder_7d493 cJ0_coder_7d493 1 (some .byte) :: qAL) (qRm 1) (va_Pc [.ref a] (sW a v byt A)) (va_Qi (fun r (_ : Unit) => r = 0) (fun _ _ => True) (fun _ => False)) 0 0 (fun _ => False) := by
  refine Met.ofW (cc := cJ0_coder_7d493) (maxL := 1) (ret := some .byte) (by decide) rfl ?_
  intro p e s m args below meth c s₁ B hml hv
  obtain ⟨rfl, hw⟩ := hv
  have hx := B.exec
  have hb := B.bytes
  have hr := B.returns
  have hts : ∀ w ∈ qAL, w.before _ s = true := fun w hw => atoms_spec (ws := .code yJ0_coder_7d493 cJ0_coder_7d493 1 (some .byte) :: qAL) B.pre w (List.mem_cons_of_mem _ hw)
  have hown : s.vm.findClass RK90 = some m.cls := findClass_of_methodNamed B.named
  have hlocks := B.notSynchronized
  have hS : va_S (fun _ => False) s.heap s.heap [] := va_S.rf
  have hl := lv_entry ([.ref a]) (n := 1) (Nat.le_of_ble_eq_true rfl)
  rw [lg_entry_eq]
  generalize (lg_sl ([.ref a]) ++ List.replicate (1 - (lg_sl ([.ref a])).length) Slot.unset).toArray = ls at hl ⊢
  have hl : lv_has ls 1 [(0, .ref a)] := hl
  refine va_gets hx hb hw.2.1 (s_wk hS) hown (hts _ (qIs_in (h := 519) (w := .fieldLink RK90 38 "java/lang/String" "COMPACT_STRINGS" "Z") (by decide +kernel))) (fun _ h => h) dJ0_coder_7d493_0 ?_
  refine lv_if_eq hx hb (tgt := 13) dJ0_coder_7d493_3 rfl (fun h => absurd h (by decide)) (fun _ => ?_)
  refine lv_aload_n hx hb dJ0_coder_7d493_6 rfl (lv_at hl 0 rfl) ?_
  refine vk_getf hx hb (hw.1.1 0 (by decide)).2.1 (s_wk hS) hown (hts _ (qIs_in (h := 2565) (w := .fieldLink RK90 15 "java/lang/String" "coder" "B") (by decide +kernel))) (fun _ h => h) dJ0_coder_7d493_7 ?_
  refine lv_goto hx hb (tgt := 14) dJ0_coder_7d493_10 rfl ?_
  exact W.zret (ty := .byte) hx hb hr rfl (fun t ht hW => ⟨⟨0, (), rfl, rfl, trivial⟩, hS.F ht⟩) hS.2.2 dJ0_coder_7d493_14 hlocks
set_option maxRecDepth 100000 in
theorem c_isLatin1 (l : Launch) {a v : Nat} {byt : List Int32} {A : Nat → Prop} : Met l yJ0_isLatin1_aae02 (.code yJ0_isLatin1_aae02 cJ0_isLatin1_aae02 1 (some .boolean) :: qAL) (qRm 1) (va_Pc [.ref a] (sW a v byt A)) (va_Qi (fun r (_ : Unit) => r = 1) (fun _ _ => True) (fun _ => False)) 0 0 (fun _ => False) := by
  refine Met.ofW (cc := cJ0_isLatin1_aae02) (maxL := 1) (ret := some .boolean) (by decide) rfl ?_
  intro p e s m args below meth c s₁ B hml hv
  obtain ⟨rfl, hw⟩ := hv
  have hx := B.exec
  have hb := B.bytes
  have hr := B.returns
  have hts : ∀ w ∈ qAL, w.before _ s = true := fun w hw => atoms_spec (ws := .code yJ0_isLatin1_aae02 cJ0_isLatin1_aae02 1 (some .boolean) :: qAL) B.pre w (List.mem_cons_of_mem _ hw)
  have hown : s.vm.findClass RK90 = some m.cls := findClass_of_methodNamed B.named
  have hlocks := B.notSynchronized
  have hS : va_S (fun _ => False) s.heap s.heap [] := va_S.rf
  have hl := lv_entry ([.ref a]) (n := 1) (Nat.le_of_ble_eq_true rfl)
  rw [lg_entry_eq]
  generalize (lg_sl ([.ref a]) ++ List.replicate (1 - (lg_sl ([.ref a])).length) Slot.unset).toArray = ls at hl ⊢
  have hl : lv_has ls 1 [(0, .ref a)] := hl
  refine va_gets hx hb hw.2.1 (s_wk hS) hown (hts _ (qIs_in (h := 519) (w := .fieldLink RK90 38 "java/lang/String" "COMPACT_STRINGS" "Z") (by decide +kernel))) (fun _ h => h) dJ0_isLatin1_aae02_0 ?_
  refine lv_if_eq hx hb (tgt := 17) dJ0_isLatin1_aae02_3 rfl (fun h => absurd h (by decide)) (fun _ => ?_)
  refine lv_aload_n hx hb dJ0_isLatin1_aae02_6 rfl (lv_at hl 0 rfl) ?_
  refine vk_getf hx hb (hw.1.1 0 (by decide)).2.1 (s_wk hS) hown (hts _ (qIs_in (h := 2565) (w := .fieldLink RK90 15 "java/lang/String" "coder" "B") (by decide +kernel))) (fun _ h => h) dJ0_isLatin1_aae02_7 ?_
  refine lv_if_ne hx hb (tgt := 17) dJ0_isLatin1_aae02_10 rfl (fun h => absurd rfl h) (fun _ => ?_)
  refine lv_iconst hx hb (v := 1) dJ0_isLatin1_aae02_13 rfl ?_
  refine lv_goto hx hb (tgt := 18) dJ0_isLatin1_aae02_14 rfl ?_
  exact W.zret (ty := .boolean) hx hb hr rfl (fun t ht hW => ⟨⟨1, (), rfl, rfl, trivial⟩, hS.F ht⟩) hS.2.2 dJ0_isLatin1_aae02_18 hlocks
set_option maxRecDepth 100000 in
theorem c_pcheck (l : Launch) {i n : Nat} (hi : i < n) (hn : n < 2147483648) {vv : Value} (hvv : vv = .null ∨ ∃ t, vv = .ref t) : Met l yJ3_checkIndex_8e157 (.code yJ3_checkIndex_8e157 cJ3_checkIndex_8e157 3 (some .int) :: qAL) (qRm 1) (va_Pc [.int (nI i), .int (nI n), vv] (fun _ => True)) (va_Qi (fun r (_ : Unit) => r = nI i) (fun _ _ => True) (fun _ => False)) 0 0 (fun _ => False) := by
  refine Met.ofW (cc := cJ3_checkIndex_8e157) (maxL := 3) (ret := some .int) (by decide) rfl ?_
  intro p e s m args below meth c s₁ B hml hv
  obtain ⟨rfl, -⟩ := hv
  have hx := B.exec
  have hb := B.bytes
  have hr := B.returns
  have hlocks := B.notSynchronized
  have hS : va_S (fun _ => False) s.heap s.heap [] := va_S.rf
  have key : ∀ ls, lv_has ls 3 [(0, .int (nI i)), (1, .int (nI n))] → W p l e (qRm 1) s m [Value.int (nI i), .int (nI n), vv].toArray below meth c s.heap [] 0 0 (MQ below (va_Qi (fun r (_ : Unit) => r = nI i) (fun _ _ => True) (fun _ => False)) [Value.int (nI i), .int (nI n), vv].toArray s 0 0 (fun _ => False)) (F0 m 0 ls []) := by
    intro ls hl
    refine lv_iload_n hx hb dJ3_checkIndex_8e157_0 rfl (lv_at hl 0 rfl) ?_
    refine lv_if_lt hx hb (tgt := 9) dJ3_checkIndex_8e157_1 rfl (fun h => absurd h (nI_pos (by omega))) (fun _ => ?_)
    refine lv_iload_n hx hb dJ3_checkIndex_8e157_4 rfl (lv_at hl 0 rfl) ?_
    refine lv_iload_n hx hb dJ3_checkIndex_8e157_5 rfl (lv_at hl 1 rfl) ?_
    refine lv_icmp_lt hx hb (tgt := 16) dJ3_checkIndex_8e157_6 rfl (fun _ => ?_) (fun h => absurd (nI_lt hi (by omega)) h)
    refine lv_iload_n hx hb dJ3_checkIndex_8e157_16 rfl (lv_at hl 0 rfl) ?_
    exact W.iret hx hb hr (fun t ht hW => ⟨⟨nI i, (), rfl, rfl, trivial⟩, hS.F ht⟩) hS.2.2 dJ3_checkIndex_8e157_17 hlocks
  rw [lg_entry_eq]
  rcases hvv with rfl | ⟨t, rfl⟩
  · have hl := lv_entry ([.int (nI i), .int (nI n), .null]) (n := 3) (Nat.le_of_ble_eq_true rfl)
    generalize (lg_sl ([.int (nI i), .int (nI n), .null]) ++ List.replicate (3 - (lg_sl ([.int (nI i), .int (nI n), .null])).length) Slot.unset).toArray = ls at hl ⊢
    exact key ls (lv_sub hl [0, 1] rfl)
  · have hl := lv_entry ([.int (nI i), .int (nI n), .ref t]) (n := 3) (Nat.le_of_ble_eq_true rfl)
    generalize (lg_sl ([.int (nI i), .int (nI n), .ref t]) ++ List.replicate (3 - (lg_sl ([.int (nI i), .int (nI n), .ref t])).length) Slot.unset).toArray = ls at hl ⊢
    exact key ls (lv_sub hl [0, 1] rfl)
set_option maxRecDepth 100000 in
theorem c_scheck (l : Launch) {a v : Nat} {byt : List Int32} {A : Nat → Prop} {i n : Nat} (hi : i < n) (hn : n < 2147483648) : Met l yJ0_checkIndex_df160 (.code yJ0_checkIndex_df160 cJ0_checkIndex_df160 2 none :: qAL) (qRm 2) (va_Pc [.int (nI i), .int (nI n)] (sW a v byt A)) (va_Qv (fun (_ : Unit) => True) (fun _ _ => True) (fun _ => False)) 0 0 (fun _ => False) := by
  refine Met.ofW (cc := cJ0_checkIndex_df160) (maxL := 2) (ret := none) (by decide) rfl ?_
  intro p e s m args below meth c s₁ B hml hv
  obtain ⟨rfl, hw⟩ := hv
  have hx := B.exec
  have hb := B.bytes
  have hr := B.returns
  have hts : ∀ w ∈ qAL, w.before _ s = true := fun w hw => atoms_spec (ws := .code yJ0_checkIndex_df160 cJ0_checkIndex_df160 2 none :: qAL) B.pre w (List.mem_cons_of_mem _ hw)
  have hown : s.vm.findClass RK90 = some m.cls := findClass_of_methodNamed B.named
  have hlocks := B.notSynchronized
  have hS : va_S (fun _ => False) s.heap s.heap [] := va_S.rf
  have hl := lv_entry ([.int (nI i), .int (nI n)]) (n := 2) (Nat.le_of_ble_eq_true rfl)
  rw [lg_entry_eq]
  generalize (lg_sl ([.int (nI i), .int (nI n)]) ++ List.replicate (2 - (lg_sl ([.int (nI i), .int (nI n)])).length) Slot.unset).toArray = ls at hl ⊢
  have hl : lv_has ls 2 [(0, .int (nI i)), (1, .int (nI n))] := hl
  refine lv_iload_n hx hb dJ0_checkIndex_df160_0 rfl (lv_at hl 0 rfl) ?_
  refine lv_iload_n hx hb dJ0_checkIndex_df160_1 rfl (lv_at hl 1 rfl) ?_
  have go : ∀ vv : Value, (vv = .null ∨ ∃ t, vv = .ref t) → W p l e (qRm 2) s m [Value.int (nI i), .int (nI n)].toArray below meth c s.heap [] 0 0 (MQ below (va_Qv (fun (_ : Unit) => True) (fun _ _ => True) (fun _ => False)) [Value.int (nI i), .int (nI n)].toArray s 0 0 (fun _ => False)) (F0 m 5 ls [vv, .int (nI n), .int (nI i)]) := by
    intro vv hvv
    refine va_calli (va_runS (As := [.int (nI i), .int (nI n), vv]) (rest := []) ⟨hx, hb, hml, hown, hts⟩ (c_pcheck l hi hn hvv) ⟨s_cb (n := 3) hts (h1 := 537) (h2 := 267) (h3 := 539) (by decide +kernel) (by decide +kernel) (by decide +kernel) (by decide) (by decide +kernel) ⟨Nat.le_of_ble_eq_true rfl, Nat.le_of_ble_eq_true rfl⟩ rfl rfl, hts _ (qIs_in (h := 538) (w := .static yJ3_checkIndex_8e157) (by decide +kernel))⟩ ⟨sT_blind, fun U hU hW => ⟨rfl, trivial⟩⟩ rfl rfl hl.1 rfl (Nat.le_of_ble_eq_true rfl) dJ0_checkIndex_df160_5 ⟨Nat.zero_le _, Nat.zero_le _⟩) hS (fun _ _ h => h) (fun _ h => h) (fun r _ t H1 locs1 ht hvm hp hB hz hk hS1 => ?_)
    refine lv_pop hx hb dJ0_checkIndex_df160_8 rfl ?_
    exact W.vret hx hb hr (fun t ht hW => ⟨⟨(), rfl, trivial, trivial⟩, hS1.F ht⟩) hS1.2.2 dJ0_checkIndex_df160_9 hlocks
  have hlk := hts _ (qIs_in (h := 535) (w := .fieldLink RK90 1053 "jdk/internal/util/Preconditions" "SIOOBE_FORMATTER" "Ljava/util/function/BiFunction;") (by decide +kernel))
  rcases hw.2.2 with hz | ⟨t, hz⟩
  · exact va_gets hx hb hz (s_wk hS) hown hlk (fun _ h => h) dJ0_checkIndex_df160_2 (go _ (Or.inl rfl))
  · exact va_gets hx hb hz (s_wk hS) hown hlk (fun _ h => h) dJ0_checkIndex_df160_2 (go _ (Or.inr ⟨t, rfl⟩))
set_option maxRecDepth 100000 in
theorem c_lcharAt (l : Launch) {a v : Nat} {byt : List Int32} {A : Nat → Prop} {k : Nat} (hk : k < byt.length) (hn : byt.length < 2147483648) : Met l yJ1_charAt_3b067 (.code yJ1_charAt_3b067 cJ1_charAt_3b067 2 (some .char) :: qAL) (qRm 3) (va_Pc [.ref v, .int (nI k)] (sW a v byt A)) (va_Qi (fun r (_ : Unit) => r = byt.getD k 0 &&& 255) (fun _ _ => True) (fun _ => False)) 0 0 (fun _ => False) := by
  refine Met.ofW (cc := cJ1_charAt_3b067) (maxL := 2) (ret := some .char) (by decide) rfl ?_
  intro p e s m args below meth c s₁ B hml hv
  obtain ⟨rfl, hw⟩ := hv
  have hx := B.exec
  have hb := B.bytes
  have hr := B.returns
  have hts : ∀ w ∈ qAL, w.before _ s = true := fun w hw => atoms_spec (ws := .code yJ1_charAt_3b067 cJ1_charAt_3b067 2 (some .char) :: qAL) B.pre w (List.mem_cons_of_mem _ hw)
  have hown : s.vm.findClass RS1 = some m.cls := findClass_of_methodNamed B.named
  have hlocks := B.notSynchronized
  have hS : va_S (fun _ => False) s.heap s.heap [] := va_S.rf
  have hl := lv_entry ([.ref v, .int (nI k)]) (n := 2) (Nat.le_of_ble_eq_true rfl)
  rw [lg_entry_eq]
  generalize (lg_sl ([.ref v, .int (nI k)]) ++ List.replicate (2 - (lg_sl ([.ref v, .int (nI k)])).length) Slot.unset).toArray = ls at hl ⊢
  have hl : lv_has ls 2 [(0, .ref v), (1, .int (nI k))] := hl
  have hT := (hw.1.1 0 (by decide)).2.2.2
  refine lv_iload_n hx hb dJ1_charAt_3b067_0 rfl (lv_at hl 1 rfl) ?_
  refine lv_aload_n hx hb dJ1_charAt_3b067_1 rfl (lv_at hl 0 rfl) ?_
  refine va_tlen hx hb hT (s_wk hS) (v := nI byt.length) rfl dJ1_charAt_3b067_2 ?_
  refine va_callv (va_runS (As := [.int (nI k), .int (nI byt.length)]) (rest := []) ⟨hx, hb, hml, hown, hts⟩ (c_scheck l (a := a) (v := v) (byt := byt) (A := A) hk hn) ⟨s_cb (n := 2) hts (h1 := 532) (h2 := 265) (h3 := 534) (by decide +kernel) (by decide +kernel) (by decide +kernel) (by decide) (by decide +kernel) ⟨Nat.le_of_ble_eq_true rfl, Nat.le_of_ble_eq_true rfl⟩ rfl rfl, hts _ (qIs_in (h := 533) (w := .static yJ0_checkIndex_df160) (by decide +kernel))⟩ ⟨sW_blind, fun U hU hW => ⟨rfl, sW_of hw hS hU hW⟩⟩ rfl rfl hl.1 rfl (Nat.le_of_ble_eq_true rfl) dJ1_charAt_3b067_3 ⟨Nat.zero_le _, Nat.zero_le _⟩) hS (fun _ _ h => h) (fun _ h => h) (fun _ t H1 locs1 ht hvm hp hB hz hk1 hS1 => ?_)
  refine lv_aload_n hx hb dJ1_charAt_3b067_6 rfl (lv_at hl 0 rfl) ?_
  refine lv_iload_n hx hb dJ1_charAt_3b067_7 rfl (lv_at hl 1 rfl) ?_
  refine va_tb hx hb hT (s_wk hS1) (vp_in_nI (show k < [byt.length].getD 0 0 from hk) (show [byt.length].getD 0 0 < _ from hn)) (v := .int (byt.getD k 0)) (by rw [nI_clamp (by omega)]; rfl) dJ1_charAt_3b067_8 ?_
  refine lv_sipush hx hb (v := 255) dJ1_charAt_3b067_9 rfl ?_
  refine lv_iand hx hb dJ1_charAt_3b067_12 ?_
  refine lv_i2c hx hb (v := byt.getD k 0 &&& 255) dJ1_charAt_3b067_13 (sc_c2 _) ?_
  exact W.zret (ty := .char) hx hb hr (sc_nar _) (fun t ht hW => ⟨⟨_, (), rfl, rfl, trivial⟩, hS1.F ht⟩) hS1.2.2 dJ1_charAt_3b067_14 hlocks
set_option maxRecDepth 100000 in
theorem c_charAt (l : Launch) {a v : Nat} {byt : List Int32} {A : Nat → Prop} {k : Nat} (hk : k < byt.length) (hn : byt.length < 2147483648) : Met l yJ0_charAt_5068e (.code yJ0_charAt_5068e cJ0_charAt_5068e 2 (some .char) :: qAL) (qRm 4) (va_Pc [.ref a, .int (nI k)] (sW a v byt A)) (va_Qi (fun r (_ : Unit) => r = byt.getD k 0 &&& 255) (fun _ _ => True) (fun _ => False)) 0 0 (fun _ => False) := by
  refine Met.ofW (cc := cJ0_charAt_5068e) (maxL := 2) (ret := some .char) (by decide) rfl ?_
  intro p e s m args below meth c s₁ B hml hv
  obtain ⟨rfl, hw⟩ := hv
  have hx := B.exec
  have hb := B.bytes
  have hr := B.returns
  have hts : ∀ w ∈ qAL, w.before _ s = true := fun w hw => atoms_spec (ws := .code yJ0_charAt_5068e cJ0_charAt_5068e 2 (some .char) :: qAL) B.pre w (List.mem_cons_of_mem _ hw)
  have hown : s.vm.findClass RK90 = some m.cls := findClass_of_methodNamed B.named
  have hlocks := B.notSynchronized
  have hS : va_S (fun _ => False) s.heap s.heap [] := va_S.rf
  have hl := lv_entry ([.ref a, .int (nI k)]) (n := 2) (Nat.le_of_ble_eq_true rfl)
  rw [lg_entry_eq]
  generalize (lg_sl ([.ref a, .int (nI k)]) ++ List.replicate (2 - (lg_sl ([.ref a, .int (nI k)])).length) Slot.unset).toArray = ls at hl ⊢
  have hl : lv_has ls 2 [(0, .ref a), (1, .int (nI k))] := hl
  refine lv_aload_n hx hb dJ0_charAt_5068e_0 rfl (lv_at hl 0 rfl) ?_
  refine va_calli (va_runV (C := RK90) (b := a) (As := []) (rest := []) ⟨hx, hb, hml, hown, hts⟩ (c_isLatin1 l (a := a) (v := v) (byt := byt) (A := A)) ⟨s_cb hts (h1 := 525) (h2 := 265) (h3 := 528) (by decide +kernel) (by decide +kernel) (by decide +kernel) (by decide) (by decide +kernel) ⟨Nat.le_of_ble_eq_true rfl, Nat.le_of_ble_eq_true rfl⟩ rfl rfl, hts _ (qIs_in (h := 526) (w := .instanceMethod yJ0_isLatin1_aae02) (by decide +kernel)), hts _ (qIs_in (h := 527) (w := .selects RK90 yJ0_isLatin1_aae02 yJ0_isLatin1_aae02) (by decide +kernel))⟩ ⟨sW_blind, vk_recv (i := 0) hw.1 (by decide) (s_wk hS), fun U hU hW => ⟨rfl, sW_of hw hS hU hW⟩⟩ rfl rfl hl.1 rfl (Nat.le_of_ble_eq_true rfl) dJ0_charAt_5068e_1 ⟨Nat.zero_le _, Nat.zero_le _⟩) hS (fun _ _ h => h) (fun _ h => h) (fun r _ t H1 locs1 ht hvm hp hB hz hk1 hS1 => ?_)
  subst hp
  refine lv_if_eq hx hb (tgt := 16) dJ0_charAt_5068e_4 rfl (fun h => absurd h (by decide)) (fun _ => ?_)
  refine lv_aload_n hx hb dJ0_charAt_5068e_7 rfl (lv_at hl 0 rfl) ?_
  refine vk_getf hx hb (hw.1.1 0 (by decide)).2.2.1 (s_wk hS1) hown (hts _ (qIs_in (h := 2564) (w := .fieldLink RK90 9 "java/lang/String" "value" "[B") (by decide +kernel))) (fun _ h => h) dJ0_charAt_5068e_8 ?_
  refine lv_iload_n hx hb dJ0_charAt_5068e_11 rfl (lv_at hl 1 rfl) ?_
  refine va_calli (va_runS (As := [.ref v, .int (nI k)]) (rest := []) ⟨hx, hb, hml, hown, hts⟩ (c_lcharAt l (a := a) (v := v) (byt := byt) (A := A) hk hn) ⟨s_cb (n := 2) hts (h1 := 529) (h2 := 266) (h3 := 531) (by decide +kernel) (by decide +kernel) (by decide +kernel) (by decide) (by decide +kernel) ⟨Nat.le_of_ble_eq_true rfl, Nat.le_of_ble_eq_true rfl⟩ rfl rfl, hts _ (qIs_in (h := 530) (w := .static yJ1_charAt_3b067) (by decide +kernel))⟩ ⟨sW_blind, fun U hU hW => ⟨rfl, sW_of hw hS1 hU hW⟩⟩ rfl rfl hl.1 rfl (Nat.le_of_ble_eq_true rfl) dJ0_charAt_5068e_12 ⟨Nat.zero_le _, Nat.zero_le _⟩) hS1 (fun _ _ h => h) (fun _ h => h) (fun r _ t H2 locs2 ht2 hvm2 hp2 hB2 hz2 hk2 hS2 => ?_)
  subst hp2
  exact W.zret (ty := .char) hx hb hr (sc_nar _) (fun t ht hW => ⟨⟨_, (), rfl, rfl, trivial⟩, hS2.F ht⟩) hS2.2.2 dJ0_charAt_5068e_15 hlocks
set_option maxRecDepth 100000 in
theorem c_length (l : Launch) {a v : Nat} {byt : List Int32} {A : Nat → Prop} (hn : byt.length < 2147483648) : Met l yJ0_length_8abf5 (.code yJ0_length_8abf5 cJ0_length_8abf5 1 (some .int) :: qAL) (qRm 4) (va_Pc [.ref a] (sW a v byt A)) (va_Qi (fun r (_ : Unit) => r = nI byt.length) (fun _ _ => True) (fun _ => False)) 0 0 (fun _ => False) := by
  refine Met.ofW (cc := cJ0_length_8abf5) (maxL := 1) (ret := some .int) (by decide) rfl ?_
  intro p e s m args below meth c s₁ B hml hv
  obtain ⟨rfl, hw⟩ := hv
  have hx := B.exec
  have hb := B.bytes
  have hr := B.returns
  have hts : ∀ w ∈ qAL, w.before _ s = true := fun w hw => atoms_spec (ws := .code yJ0_length_8abf5 cJ0_length_8abf5 1 (some .int) :: qAL) B.pre w (List.mem_cons_of_mem _ hw)
  have hown : s.vm.findClass RK90 = some m.cls := findClass_of_methodNamed B.named
  have hlocks := B.notSynchronized
  have hS : va_S (fun _ => False) s.heap s.heap [] := va_S.rf
  have hl := lv_entry ([.ref a]) (n := 1) (Nat.le_of_ble_eq_true rfl)
  rw [lg_entry_eq]
  generalize (lg_sl ([.ref a]) ++ List.replicate (1 - (lg_sl ([.ref a])).length) Slot.unset).toArray = ls at hl ⊢
  have hl : lv_has ls 1 [(0, .ref a)] := hl
  refine lv_aload_n hx hb dJ0_length_8abf5_0 rfl (lv_at hl 0 rfl) ?_
  refine vk_getf hx hb (hw.1.1 0 (by decide)).2.2.1 (s_wk hS) hown (hts _ (qIs_in (h := 2564) (w := .fieldLink RK90 9 "java/lang/String" "value" "[B") (by decide +kernel))) (fun _ h => h) dJ0_length_8abf5_1 ?_
  refine va_tlen hx hb (hw.1.1 0 (by decide)).2.2.2 (s_wk hS) (v := nI byt.length) rfl dJ0_length_8abf5_4 ?_
  refine lv_aload_n hx hb dJ0_length_8abf5_5 rfl (lv_at hl 0 rfl) ?_
  refine va_calli (va_runV (C := RK90) (b := a) (As := []) (rest := [.int (nI byt.length)]) ⟨hx, hb, hml, hown, hts⟩ (c_coder l (a := a) (v := v) (byt := byt) (A := A)) ⟨s_cb hts (h1 := 515) (h2 := 265) (h3 := 518) (by decide +kernel) (by decide +kernel) (by decide +kernel) (by decide) (by decide +kernel) ⟨Nat.le_of_ble_eq_true rfl, Nat.le_of_ble_eq_true rfl⟩ rfl rfl, hts _ (qIs_in (h := 516) (w := .instanceMethod yJ0_coder_7d493) (by decide +kernel)), hts _ (qIs_in (h := 517) (w := .selects RK90 yJ0_coder_7d493 yJ0_coder_7d493) (by decide +kernel))⟩ ⟨sW_blind, vk_recv (i := 0) hw.1 (by decide) (s_wk hS), fun U hU hW => ⟨rfl, sW_of hw hS hU hW⟩⟩ rfl rfl hl.1 rfl (Nat.le_of_ble_eq_true rfl) dJ0_length_8abf5_6 ⟨Nat.zero_le _, Nat.zero_le _⟩) hS (fun _ _ h => h) (fun _ h => h) (fun r _ t H1 locs1 ht hvm hp hB hz hk1 hS1 => ?_)
  subst hp
  refine lv_ishr hx hb dJ0_length_8abf5_9 ?_
  rw [sc_shr0 (by omega)]
  exact W.iret hx hb hr (fun t ht hW => ⟨⟨_, (), rfl, rfl, trivial⟩, hS1.F ht⟩) hS1.2.2 dJ0_length_8abf5_10 hlocks
-- the same in the pure machine's words
theorem s_met {l : Launch} {E : qE} {σ : qSg} {y : MethodName} {ws : List Cond} {rm : Room} {args : List Value} {post : Int32 → Prop} (h : Met l y ws rm (va_Pc args (sW (E.2.1 1000) (E.2.1 1001) qKEYb (qA E))) (va_Qi (fun r (_ : Unit) => post r) (fun _ _ => True) (fun _ => False)) 0 0 (fun _ => False)) :
    Met l y ws rm (va_Pc args (qWU E σ)) (va_Qi (fun r σ' => post r ∧ σ' = σ) (qWU E) (qA E)) 0 0 (qA E) := by
  refine MetFree.mono h (fun a s hP => ?_) (fun _ _ _ _ _ _ => trivial) (fun a s o t hP hQ => ?_)
  · obtain ⟨h0, -, -, -, h4, -⟩ := hP
    exact ⟨h0, h4.2.1, h4.2.2.1, h4.2.2.2⟩
  · obtain ⟨h0, hP, hK, hD, hStr, hb⟩ := hP
    obtain ⟨⟨⟨r, _, rfl, hr, -⟩, hF⟩, L, hFE, hL⟩ := hQ
    have hS : va_S (qA E) s.heap t.heap [] := ⟨hF.1, fun q h1 _ => hF.2 q h1 (fun h => h), fun _ h => by cases h⟩
    have hP' : va_P E.1 vwCl (qws E σ) t.heap := fun k q hq => (hP k q hq).kept (hF.2 q.1 (hP k q hq).lt (fun h => h))
    exact ⟨⟨⟨r, σ, rfl, ⟨hr, rfl⟩, qWU_of hK hStr hb hP' hD hS rfl hFE.2.1⟩, ⟨hF.1, fun q h1 _ => hF.2 q h1 (fun h => h)⟩⟩, L, hFE, fun q hq => (hL q hq).elim⟩
theorem s_length (σ : qSg) : qFI 4 369 [qr 1000] σ (nI qKEYb.length) := ⟨ok_369, fun l E => s_met (c_length l (by decide))⟩
theorem s_charAt (σ : qSg) {k : Nat} (hk : k < qKEYb.length) : qFI 4 370 [qr 1000, qi (nI k)] σ (qKEYb.getD k 0 &&& 255) := ⟨ok_370, fun l E => s_met (c_charAt l hk (by decide))⟩
