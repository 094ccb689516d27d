/-! what the kernel checks of the code tables: each instruction against the bytes, each link against the words of the tables -/
def qft (c k : Nat) : Nat := match qTy c k with
  | .long => 1
  | .object _ => 2
  | .array _ => 2
  | .boolean => 3
  | .int => 0
  | _ => 9
def qAL : List Cond := lw_tbl.filter goodWord
def qIs (h : Nat) (w : Cond) : Bool := decide (qWd h = some w) && goodWord w
theorem qTb_in : ∀ (c : Nat) (w : Cond), w ∈ qTb c → w ∈ lw_tbl := by
  intro c w hw
  unfold qTb at hw
  split at hw <;> first | exact absurd hw List.not_mem_nil | (simp only [lw_tbl, tables_1, List.mem_append]; simp only [hw, true_or, or_true])
theorem qIs_in {h : Nat} {w : Cond} (hq : qIs h w = true) : w ∈ qAL := by
  simp only [qIs, Bool.and_eq_true, decide_eq_true_eq] at hq
  exact List.mem_filter.mpr ⟨qTb_in _ w (List.mem_of_getElem? hq.1), hq.2⟩
def qnf (c : Nat) : Nat := (vwCl.getD c ("", fun _ => ("", "", "", false), 0)).2.2
theorem qcl_at : ∀ c, c < 13 → vwCl[c]? = some (qCN c, qTF c, qnf c)
  | 0, _ => rfl
  | 1, _ => rfl
  | 2, _ => rfl
  | 3, _ => rfl
  | 4, _ => rfl
  | 5, _ => rfl
  | 6, _ => rfl
  | 7, _ => rfl
  | 8, _ => rfl
  | 9, _ => rfl
  | 10, _ => rfl
  | 11, _ => rfl
  | 12, _ => rfl
  | n + 13, h => absurd h (by omega)
def qlen : Instr → Nat
  | .bipush _ | .ldc _ | .iload _ | .lload _ | .aload _ | .istore _ | .lstore _ | .astore _ | .newarray _ => 2
  | .sipush _ | .ldc_w _ | .ldc2_w _ | .iinc _ _ | .ifCond _ _ | .if_icmp _ _ | .goto _ | .ifnull _ | .ifnonnull _ | .getfield _ | .putfield _ | .invokestatic _ | .invokevirtual _ | .invokespecial _ | .new _ | .anewarray _ => 3
  | _ => 1
/-- the words of a method -/
def qmk (k : Nat) : Bool :=
  let m := qMT k
  let y := m.1
  let hs := m.2.2.2.2.2.1
  qIs (hs.getD 1 0) (.initialized y.cls) && decide (y.cls = qCN m.2.2.2.2.1) && decide (y.cls ≠ "java/lang/invoke/MethodHandle" ∧ y.cls ≠ "java/lang/invoke/VarHandle") && plainName y.cls && decide (m.2.2.1 ≤ 40) &&
  decide ((parseMethodDescriptor y.desc).map (fun d => d.parameters.length) = some m.2.2.2.2.2.2.1) &&
  (if m.2.2.2.2.2.2.2.1 then qIs (hs.getD 2 0) (.static y) else (qIs (hs.getD 2 0) (.instanceMethod y) && qIs (hs.getD 3 0) (.selects y.cls y y)))
def qjmp (pc : Nat) (o : Int) (t : Nat) : Bool := decide ((pc : Int) + o = (t : Int))
def qdk (own maxL : Nat) (ret : Option FieldType) (pc : Nat) (i : Instr) (dt : List Nat) : Bool :=
  match i, dt with
  | .iconst n, [v] => decide (Int32.ofInt n = nI v)
  | .bipush n, [v] => decide ((Int8.ofInt n).toInt32 = nI v)
  | .bipush n, [] => decide ((Int8.ofInt n).toInt32 = Int32.ofInt n)
  | .sipush n, [v] => decide ((Int16.ofInt n).toInt32 = nI v)
  | .sipush n, [] => decide ((Int16.ofInt n).toInt32 = Int32.ofInt n)
  | .ldc n, [h, v] => qIs h (.constant (qCN own) n (nI v))
  | .ldc n, [_, k, _] => decide (own = 12) && decide (n = qKEYi) && decide (k = 1000)
  | .ldc_w n, [h, v] => qIs h (.constant (qCN own) n (nI v))
  | .ldc2_w n, [h, v] => qIs h (.constantLong (qCN own) n (lN v))
  | .ldc2_w n, [h, v, _] => qIs h (.constantLong (qCN own) n (-(lN v)))
  | .istore_n n, [] => decide ((n : Nat) < maxL)
  | .astore_n n, [] => decide ((n : Nat) < maxL)
  | .istore n, [] => decide (n < maxL)
  | .astore n, [] => decide (n < maxL)
  | .lstore_n n, [] => decide ((n : Nat) + 1 < maxL)
  | .lstore n, [] => decide (n + 1 < maxL)
  | .iinc n c, [v] => decide (n < maxL) && decide (Int32.ofInt c = nI v)
  | .iinc n _, [] => decide (n < maxL)
  | .ifCond _ o, [t] => qjmp pc o t
  | .if_icmp _ o, [t] => qjmp pc o t
  | .goto o, [t] => qjmp pc o t
  | .ifnull o, [t] => qjmp pc o t
  | .ifnonnull o, [t] => qjmp pc o t
  | .tableswitch e a b os, t :: ts => qjmp pc e t && decide (os.toList.map (fun o => (pc : Int) + o) = ts.map (fun t : Nat => (t : Int))) && decide (b = a + (os.toList.length : Int) - 1)
  | .getfield n, [c, k, h, f] => decide (c < 13) && decide (k < qnf c) && decide (f = qft c k) && decide (f ≠ 9) && qIs h (.fieldLink (qCN own) n (qCN c) (qTF c k).2.1 (qTF c k).2.2.1) && decide ((qTF c k).1 = qCN c)
  | .putfield n, [c, k, h, f] => decide (c < 13) && decide (k < qnf c) && decide (f = qft c k) && decide (f ≠ 9) && qIs h (.fieldLink (qCN own) n (qCN c) (qTF c k).2.1 (qTF c k).2.2.1) && decide ((qTF c k).1 = qCN c) && (decide (f = 2) || decide ((qTF c k).2.2.2 = false))
  | .invokestatic n, [h] => qIs h (.methodLink (qCN own) n arraycopyName)
  | .invokestatic n, [h, j] => if j = 0 then qIs h (.methodLink (qCN own) n Lib.Math.max.name) else if j = 1 then qIs h (.methodLink (qCN own) n Lib.Math.min.name) else if j = 2 then qIs h (.methodLink (qCN own) n Lib.Math.abs.name) else false
  | .invokestatic n, [k, h, np, _, c] => decide (k < qML.length) && decide ((qMT k).1.name ≠ "<init>") && (qMT k).2.2.2.2.2.2.2.1 && qIs h (.methodLink (qCN own) n (qMT k).1) && decide (np = (qMT k).2.2.2.2.2.2.1) && decide (c = 0)
  | .invokevirtual n, [k, h, np, _, c] => decide (k < qML.length) && decide ((qMT k).1.name ≠ "<init>") && !(qMT k).2.2.2.2.2.2.2.1 && qIs h (.methodLink (qCN own) n (qMT k).1) && decide (np = (qMT k).2.2.2.2.2.2.1 + 1) && decide (c = (qMT k).2.2.2.2.1 + 1)
  | .ireturn, [z] => (decide (z = 0) && decide (ret = some .int)) || (decide (z = 1) && decide (ret = some .boolean))
  | .lreturn, _ => decide (ret = some .long)
  | .return_, _ => decide (ret = none)
  | _, _ => true
def qln (i : Instr) (n : Nat) : Bool := match i with
  | .nop => false
  | .tableswitch _ _ _ _ => true
  | i => decide (n = qlen i)
def qik (own maxL : Nat) (ret : Option FieldType) (bytes : ByteArray) (pc : Nat) (x : qIns) : Bool :=
  decide (x = (.nop, 0, [pc])) || (decide (decode bytes pc = .ok (x.1, x.2.1)) && qln x.1 x.2.1 && qdk own maxL ret pc x.1 x.2.2)
def qbk (own maxL : Nat) (ret : Option FieldType) (bytes : ByteArray) : Nat → List qIns → Bool
  | _, [] => true
  | pc, x :: xs => qik own maxL ret bytes pc x && qbk own maxL ret bytes (pc + x.2.1) xs
def qgd (k : Nat) : Bool := (qMT k).2.2.2.2.2.2.2.2.all fun b => qbk (qMT k).2.2.2.2.1 (qMT k).2.2.1 (qMT k).2.2.2.1 (qMT k).2.1 b.1 b.2
def qcw (k : Nat) : Prop := qWd ((qMT k).2.2.2.2.2.1.getD 0 0) = some (.code (qMT k).1 (qMT k).2.1 (qMT k).2.2.1 (qMT k).2.2.2.1)
/-- a method whose tables are right -/
def qgood (k : Nat) : Prop := qmk k = true ∧ qcw k ∧ qgd k = true
theorem qw_sys : Cond.initialized "java/lang/System" ∈ qAL := qIs_in (h := qh_sys) (by decide +kernel)
theorem qw_math : Cond.initialized "java/lang/Math" ∈ qAL := qIs_in (h := qh_math) (by decide +kernel)
theorem qw_cpyS : Cond.static arraycopyName ∈ qAL := qIs_in (h := qh_cpyS) (by decide +kernel)
theorem qw_cpyN : Cond.native arraycopyName ∈ qAL := qIs_in (h := qh_cpyN) (by decide +kernel)
theorem qw_maxS : Cond.static Lib.Math.max.name ∈ qAL := qIs_in (h := qh_maxS) (by decide +kernel)
theorem qw_maxC : Cond.code Lib.Math.max.name Lib.Math.max.code 2 (some .int) ∈ qAL := qIs_in (h := qh_maxC) (by decide +kernel)
theorem qw_minS : Cond.static Lib.Math.min.name ∈ qAL := qIs_in (h := qh_minS) (by decide +kernel)
theorem qw_minC : Cond.code Lib.Math.min.name Lib.Math.min.code 2 (some .int) ∈ qAL := qIs_in (h := qh_minC) (by decide +kernel)
theorem qw_absS : Cond.static Lib.Math.abs.name ∈ qAL := qIs_in (h := qh_absS) (by decide +kernel)
theorem qw_absC : Cond.code Lib.Math.abs.name Lib.Math.abs.code 1 (some .int) ∈ qAL := qIs_in (h := qh_absC) (by decide +kernel)
