/-! THE CORE. A method's state in plain words: locals, stack, and the two tables of numbers that all cells hold (ints, longs). References never change behind the constructors: qRf. qW says what must hold ahead of a row of instructions; qV is what the machine does; qV.go: the one gives the other. -/
abbrev qPV : Type := Int32 ⊕ Int64 ⊕ Option Nat
abbrev qi (x : Int32) : qPV := .inl x
abbrev ql (x : Int64) : qPV := .inr (.inl x)
abbrev qr (k : Nat) : qPV := .inr (.inr (some k))
abbrev qLo : Type := List (Option qPV)
abbrev qSg : Type := (Nat → Nat → Int32) × (Nat → Nat → Int64)
abbrev qE : Type := va_G × (Nat → Nat) × (Nat → ClassId) × Nat
abbrev qQ : Type := (Int32 → qSg → Prop) ⊕ (Int64 → qSg → Prop) ⊕ (qSg → Prop)
def qTV (ad : Nat → Nat) : qPV → Value
  | .inl x => .int x
  | .inr (.inl x) => .long x
  | .inr (.inr none) => .null
  | .inr (.inr (some k)) => .ref (ad k)
def qIsI : qPV → Prop
  | .inl _ => True
  | _ => False
def qIsL : qPV → Prop
  | .inr (.inl _) => True
  | _ => False
def qIsR : qPV → Prop
  | .inr (.inr (some _)) => True
  | _ => False
def qil : qPV → Bool
  | .inr (.inl _) => true
  | _ => false
def qint : qPV → Int32
  | .inl x => x
  | _ => 0
def qlg : qLo → Nat → qPV
  | [], _ => .inr (.inr none)
  | h :: _, 0 => h.getD (.inr (.inr none))
  | _ :: t, n + 1 => qlg t n
def qmax (x y : Int32) : Int32 := if x < y then y else x
def qmin (x y : Int32) : Int32 := if y < x then y else x
def qabs (x : Int32) : Int32 := if 0 ≤ x then x else 0 - x
def qkl : Option qPV → Option qPV
  | some (.inr (.inl _)) => none
  | h => h
def qls0 (t : qLo) (v : qPV) : qLo := some v :: (if qil v then (match t with | [] => [] | _ :: t' => none :: t') else t)
def qls : qLo → Nat → qPV → qLo
  | [], _, _ => []
  | _ :: t, 0, v => qls0 t v
  | h :: t, n + 1, v => (if n = 0 then qkl h else h) :: qls t n v
def qfl (σ : qSg) (a k f : Nat) : qPV := if f = 1 then .inr (.inl (σ.2 a k)) else if f = 2 then .inr (.inr (qRf a k)) else .inl (σ.1 a k)
def qwi (σ : qSg) (a k : Nat) (x : Int32) : qSg := (fun b j => if b = a ∧ j = k then x else σ.1 b j, σ.2)
def qwl (σ : qSg) (a k : Nat) (x : Int64) : qSg := (σ.1, fun b j => if b = a ∧ j = k then x else σ.2 b j)
def qci (σ : qSg) (a i b j n : Nat) : qSg := (fun c k => if c = b then va_cpy (σ.1 a) (σ.1 b) i j n k else σ.1 c k, σ.2)
def qcl (σ : qSg) (a i b j n : Nat) : qSg := (σ.1, fun c k => if c = b then va_cpy (σ.2 a) (σ.2 b) i j n k else σ.2 c k)
def qin (i : Int32) (n : Nat) : Prop := ¬ i < 0 ∧ i.toNatClampNeg < n
def qrg (i z : Int32) (n : Nat) : Prop := ¬ i < 0 ∧ ¬ z < 0 ∧ i.toNatClampNeg + z.toNatClampNeg ≤ n
def qcs : List qPV → Nat
  | [] => 0
  | v :: t => (if qil v then 2 else 1) + qcs t
-- the world of cells
def qfv (E : qE) (σ : qSg) (c k j : Nat) : Value := qTV E.2.1 (qfl σ k j (qft c j))
def qent (E : qE) (σ : qSg) (k : Nat) : va_E :=
  if 10 ≤ (qKd k).1 then .inr ((qKd k).1 - 10, (List.range (qKd k).2).map (fun j => qfv E σ ((qKd k).1 - 10) k j))
  else .inl (E.2.2.1 (qKd k).1, (qKd k).2, if (qKd k).1 = 1 then .inr (.inl (σ.2 k)) else if 4 ≤ (qKd k).1 then .inr (.inr (.inr (.inr fun j => (qRf k j).map E.2.1))) else .inl (σ.1 k))
def qws (E : qE) (σ : qSg) : va_W := (List.range qKL.length).map fun k => (E.2.1 k, qent E σ k)
def qtys (E : qE) : List (ClassId × FieldType) := [(E.2.2.1 0, .int), (E.2.2.1 1, .long), (E.2.2.1 2, .byte), (E.2.2.1 3, .boolean), (E.2.2.1 4, .object "ForgiveCamp$Camp"), (E.2.2.1 5, .object "ForgiveCamp$Weeks")]
def qA (E : qE) : Nat → Prop := fun q => E.2.2.2 ≤ q
def qStr (E : qE) (U : State) (H : Heap) : Prop := vk_R RX12 qKEYi qKEYS (E.2.1 1000) U ∧ vk_S 1 [qKEYb.length] [qKEYb] (fun _ => E.2.1 1000) (fun _ => E.2.1 1001) (qA E) U H ∧ va_Z "java/lang/String" "COMPACT_STRINGS" "Z" (.int 1) (qA E) U H ∧ va_Zq "jdk/internal/util/Preconditions" "SIOOBE_FORMATTER" "Ljava/util/function/BiFunction;" (qA E) U H
def qWU (E : qE) (σ : qSg) (U : State) : Prop := va_P E.1 vwCl (qws E σ) U.heap ∧ va_K E.1 vwCl (qtys E) U ∧ va_D (qA E) (qws E σ) ∧ qStr E U U.heap ∧ E.2.2.2 ≤ U.heap.size
-- contracts
def qAW (mi : qMI) : List Cond := Cond.code mi.1 mi.2.1 mi.2.2.1 mi.2.2.2.1 :: qAL
def qRm (d : Nat) : Room := { frames := d, cells := 0, slots := 0, locals := 64 * d }
def qCI (d k : Nat) (a : List qPV) (σ : qSg) (Q : Int32 → qSg → Prop) : Prop := qgood k ∧ ∀ (l : Launch) (E : qE), Met l (qMT k).1 (qAW (qMT k)) (qRm d) (va_Pc (a.map (qTV E.2.1)) (qWU E σ)) (va_Qi Q (qWU E) (qA E)) 0 0 (qA E)
def qCL (d k : Nat) (a : List qPV) (σ : qSg) (Q : Int64 → qSg → Prop) : Prop := qgood k ∧ ∀ (l : Launch) (E : qE), Met l (qMT k).1 (qAW (qMT k)) (qRm d) (va_Pc (a.map (qTV E.2.1)) (qWU E σ)) (va_Ql Q (qWU E) (qA E)) 0 0 (qA E)
def qCV (d k : Nat) (a : List qPV) (σ : qSg) (Q : qSg → Prop) : Prop := qgood k ∧ ∀ (l : Launch) (E : qE), Met l (qMT k).1 (qAW (qMT k)) (qRm d) (va_Pc (a.map (qTV E.2.1)) (qWU E σ)) (va_Qv Q (qWU E) (qA E)) 0 0 (qA E)
def qBI (d k : Nat) (a : List qPV) (σ : qSg) (Q : Int32 → qSg → Prop) : Prop := ∃ d' P, d' < d ∧ qCI d' k a σ P ∧ ∀ r σ', P r σ' → Q r σ'
def qBL (d k : Nat) (a : List qPV) (σ : qSg) (Q : Int64 → qSg → Prop) : Prop := ∃ d' P, d' < d ∧ qCL d' k a σ P ∧ ∀ r σ', P r σ' → Q r σ'
def qBV (d k : Nat) (a : List qPV) (σ : qSg) (Q : qSg → Prop) : Prop := ∃ d' P, d' < d ∧ qCV d' k a σ P ∧ ∀ σ', P σ' → Q σ'
def qRcv (c : Nat) : List qPV → Prop
  | .inr (.inr (some a)) :: _ => if c = 0 then True else if c = 91 then a = 1000 else (qKd a).1 = 9 + c
  | _ => c = 0
def qcall (d : Nat) (K : qLo → List qPV → qSg → Prop) (lo : qLo) (st : List qPV) (σ : qSg) (k np rk c : Nat) : Prop :=
  np ≤ st.length ∧ qcs (st.drop np) ≤ 8 ∧ qRcv c (st.take np).reverse ∧
    (if rk = 0 then qBI d k (st.take np).reverse σ (fun r σ' => K lo (.inl r :: st.drop np) σ')
     else if rk = 1 then qBL d k (st.take np).reverse σ (fun r σ' => K lo (.inr (.inl r) :: st.drop np) σ')
     else qBV d k (st.take np).reverse σ (fun σ' => K lo (st.drop np) σ'))
def qmath (d : Nat) (K : qLo → List qPV → qSg → Prop) (lo : qLo) (st : List qPV) (σ : qSg) (j : Nat) : Prop :=
  if j = 2 then (match st with
    | .inl x :: st => qcs st ≤ 8 ∧ 0 < d ∧ K lo (.inl (qabs x) :: st) σ
    | _ => False)
  else (match st with
    | .inl y :: .inl x :: st => qcs st ≤ 8 ∧ 0 < d ∧ K lo (.inl (if j = 0 then qmax x y else qmin x y) :: st) σ
    | _ => False)
def qrI : qQ → Int32 → qSg → Prop
  | .inl q => q
  | _ => fun _ _ => False
def qrL : qQ → Int64 → qSg → Prop
  | .inr (.inl q) => q
  | _ => fun _ _ => False
def qrV : qQ → qSg → Prop
  | .inr (.inr q) => q
  | _ => fun _ => False
def qsl (J : Nat → qLo → List qPV → qSg → Prop) (lo : qLo) (st : List qPV) (σ : qSg) (x : Int32) : Int → List Nat → Prop
  | _, [] => True
  | a, t :: ts => (x.toInt = a → J t lo st σ) ∧ qsl J lo st σ x (a + 1) ts
def qsw (J : Nat → qLo → List qPV → qSg → Prop) (lo : qLo) (st : List qPV) (σ : qSg) (x : Int32) (a b : Int) (t : Nat) (ts : List Nat) : Prop := (x.toInt < a ∨ b < x.toInt → J t lo st σ) ∧ qsl J lo st σ x a ts

def qX (d : Nat) (J : Nat → qLo → List qPV → qSg → Prop) (Q : qQ) (i : Instr) (dt : List Nat) (K : qLo → List qPV → qSg → Prop) (lo : qLo) (st : List qPV) (σ : qSg) : Prop :=
  match i, dt, st with
  | .nop, [t], st => J t lo st σ
  | .iconst n, [v], st => K lo (.inl (nI v) :: st) σ
  | .iconst n, [], st => K lo (.inl (Int32.ofInt n) :: st) σ
  | .bipush n, [v], st => K lo (.inl (nI v) :: st) σ
  | .bipush n, [], st => K lo (.inl (Int32.ofInt n) :: st) σ
  | .sipush n, [v], st => K lo (.inl (nI v) :: st) σ
  | .sipush n, [], st => K lo (.inl (Int32.ofInt n) :: st) σ
  | .ldc n, [h, v], st => K lo (.inl (nI v) :: st) σ
  | .ldc n, [h, k, z], st => K lo (.inr (.inr (some k)) :: st) σ
  | .ldc_w n, [h, v], st => K lo (.inl (nI v) :: st) σ
  | .ldc2_w n, [h, v], st => K lo (.inr (.inl (lN v)) :: st) σ
  | .ldc2_w n, [h, v, z], st => K lo (.inr (.inl (-(lN v))) :: st) σ
  | .lconst n, [], st => K lo (.inr (.inl (lN n)) :: st) σ
  | .iload_n n, [], st => qIsI (qlg lo n) ∧ K lo (qlg lo n :: st) σ
  | .iload n, [], st => qIsI (qlg lo n) ∧ K lo (qlg lo n :: st) σ
  | .lload_n n, [], st => qIsL (qlg lo n) ∧ K lo (qlg lo n :: st) σ
  | .lload n, [], st => qIsL (qlg lo n) ∧ K lo (qlg lo n :: st) σ
  | .aload_n n, [], st => qIsR (qlg lo n) ∧ K lo (qlg lo n :: st) σ
  | .aload n, [], st => qIsR (qlg lo n) ∧ K lo (qlg lo n :: st) σ
  | .istore_n n, [], .inl x :: st => K (qls lo n (.inl x)) st σ
  | .istore n, [], .inl x :: st => K (qls lo n (.inl x)) st σ
  | .lstore_n n, [], .inr (.inl x) :: st => K (qls lo n (.inr (.inl x))) st σ
  | .lstore n, [], .inr (.inl x) :: st => K (qls lo n (.inr (.inl x))) st σ
  | .astore_n n, [], .inr (.inr (some x)) :: st => K (qls lo n (.inr (.inr (some x)))) st σ
  | .astore n, [], .inr (.inr (some x)) :: st => K (qls lo n (.inr (.inr (some x)))) st σ
  | .iinc n c, [v], st => qIsI (qlg lo n) ∧ K (qls lo n (.inl (qint (qlg lo n) + nI v))) st σ
  | .iinc n c, [], st => qIsI (qlg lo n) ∧ K (qls lo n (.inl (qint (qlg lo n) + Int32.ofInt c))) st σ
  | .iadd, [], .inl y :: .inl x :: st => K lo (.inl (x + y) :: st) σ
  | .isub, [], .inl y :: .inl x :: st => K lo (.inl (x - y) :: st) σ
  | .imul, [], .inl y :: .inl x :: st => K lo (.inl (x * y) :: st) σ
  | .iand, [], .inl y :: .inl x :: st => K lo (.inl (x &&& y) :: st) σ
  | .ior, [], .inl y :: .inl x :: st => K lo (.inl (x ||| y) :: st) σ
  | .ixor, [], .inl y :: .inl x :: st => K lo (.inl (x ^^^ y) :: st) σ
  | .ishl, [], .inl y :: .inl x :: st => K lo (.inl (x <<< (y &&& 31)) :: st) σ
  | .ishr, [], .inl y :: .inl x :: st => K lo (.inl (x >>> (y &&& 31)) :: st) σ
  | .iushr, [], .inl y :: .inl x :: st => K lo (.inl ((x.toUInt32 >>> (y.toUInt32 &&& Int32.toUInt32 31)).toInt32) :: st) σ
  | .idiv, [], .inl y :: .inl x :: st => ¬ y = 0 ∧ K lo (.inl (x / y) :: st) σ
  | .irem, [], .inl y :: .inl x :: st => ¬ y = 0 ∧ K lo (.inl (x - x / y * y) :: st) σ
  | .ineg, [], .inl x :: st => K lo (.inl (-x) :: st) σ
  | .ladd, [], .inr (.inl y) :: .inr (.inl x) :: st => K lo (.inr (.inl (x + y)) :: st) σ
  | .lsub, [], .inr (.inl y) :: .inr (.inl x) :: st => K lo (.inr (.inl (x - y)) :: st) σ
  | .lmul, [], .inr (.inl y) :: .inr (.inl x) :: st => K lo (.inr (.inl (x * y)) :: st) σ
  | .land, [], .inr (.inl y) :: .inr (.inl x) :: st => K lo (.inr (.inl (x &&& y)) :: st) σ
  | .lor, [], .inr (.inl y) :: .inr (.inl x) :: st => K lo (.inr (.inl (x ||| y)) :: st) σ
  | .ldiv, [], .inr (.inl y) :: .inr (.inl x) :: st => ¬ y = 0 ∧ K lo (.inr (.inl (x / y)) :: st) σ
  | .lrem, [], .inr (.inl y) :: .inr (.inl x) :: st => ¬ y = 0 ∧ K lo (.inr (.inl (x - x / y * y)) :: st) σ
  | .lshl, [], .inl y :: .inr (.inl x) :: st => K lo (.inr (.inl (x <<< (y.toInt64 &&& 63))) :: st) σ
  | .lcmp, [], .inr (.inl y) :: .inr (.inl x) :: st => K lo (.inl (lg_cmp x y) :: st) σ
  | .i2l, [], .inl x :: st => K lo (.inr (.inl x.toInt64) :: st) σ
  | .l2i, [], .inr (.inl x) :: st => K lo (.inl x.toInt32 :: st) σ
  | .i2b, [], .inl x :: st => K lo (.inl x.toInt8.toInt32 :: st) σ
  | .i2s, [], .inl x :: st => K lo (.inl x.toInt16.toInt32 :: st) σ
  | .dup, [], v :: st => qil v = false ∧ K lo (v :: v :: st) σ
  | .pop, [], v :: st => qil v = false ∧ K lo st σ
  | .dup2, [], v :: u :: st => qil v = false ∧ qil u = false ∧ K lo (v :: u :: v :: u :: st) σ
  | .aconst_null, [], st => K lo (.inr (.inr none) :: st) σ
  | .ifCond .eq o, [t], .inl x :: st => (x = 0 → J t lo st σ) ∧ (¬ x = 0 → K lo st σ)
  | .if_icmp .eq o, [t], .inl y :: .inl x :: st => (x = y → J t lo st σ) ∧ (¬ x = y → K lo st σ)
  | .ifCond .ne o, [t], .inl x :: st => (¬ x = 0 → J t lo st σ) ∧ (x = 0 → K lo st σ)
  | .if_icmp .ne o, [t], .inl y :: .inl x :: st => (¬ x = y → J t lo st σ) ∧ (x = y → K lo st σ)
  | .ifCond .lt o, [t], .inl x :: st => (x < 0 → J t lo st σ) ∧ (¬ x < 0 → K lo st σ)
  | .if_icmp .lt o, [t], .inl y :: .inl x :: st => (x < y → J t lo st σ) ∧ (¬ x < y → K lo st σ)
  | .ifCond .ge o, [t], .inl x :: st => (0 ≤ x → J t lo st σ) ∧ (¬ 0 ≤ x → K lo st σ)
  | .if_icmp .ge o, [t], .inl y :: .inl x :: st => (y ≤ x → J t lo st σ) ∧ (¬ y ≤ x → K lo st σ)
  | .ifCond .gt o, [t], .inl x :: st => (0 < x → J t lo st σ) ∧ (¬ 0 < x → K lo st σ)
  | .if_icmp .gt o, [t], .inl y :: .inl x :: st => (y < x → J t lo st σ) ∧ (¬ y < x → K lo st σ)
  | .ifCond .le o, [t], .inl x :: st => (x ≤ 0 → J t lo st σ) ∧ (¬ x ≤ 0 → K lo st σ)
  | .if_icmp .le o, [t], .inl y :: .inl x :: st => (x ≤ y → J t lo st σ) ∧ (¬ x ≤ y → K lo st σ)
  | .goto o, [t], st => J t lo st σ
  | .ifnull o, [t], .inr (.inr (some x)) :: st => K lo st σ
  | .ifnonnull o, [t], .inr (.inr (some x)) :: st => J t lo st σ
  | .tableswitch e a b os, t :: ts, .inl x :: st => qsw J lo st σ x a b t ts
  | .getfield n, [c, k, h, f], .inr (.inr (some a)) :: st => (qKd a).1 = 10 + c ∧ K lo (qfl σ a k f :: st) σ
  | .putfield n, [c, k, h, f], .inl x :: .inr (.inr (some a)) :: st => (f = 0 ∨ (f = 3 ∧ (x = nI 0 ∨ x = nI 1))) ∧ (qKd a).1 = 10 + c ∧ K lo st (qwi σ a k x)
  | .putfield n, [c, k, h, f], .inr (.inl x) :: .inr (.inr (some a)) :: st => f = 1 ∧ (qKd a).1 = 10 + c ∧ K lo st (qwl σ a k x)
  | .iaload, [], .inl i :: .inr (.inr (some a)) :: st => (qKd a).1 = 0 ∧ qin i (qKd a).2 ∧ K lo (.inl (σ.1 a i.toNatClampNeg) :: st) σ
  | .laload, [], .inl i :: .inr (.inr (some a)) :: st => (qKd a).1 = 1 ∧ qin i (qKd a).2 ∧ K lo (.inr (.inl (σ.2 a i.toNatClampNeg)) :: st) σ
  | .baload, [], .inl i :: .inr (.inr (some a)) :: st => ((qKd a).1 = 2 ∨ (qKd a).1 = 3) ∧ qin i (qKd a).2 ∧ K lo (.inl (σ.1 a i.toNatClampNeg) :: st) σ
  | .aaload, [], .inl i :: .inr (.inr (some a)) :: st => ((qKd a).1 = 4 ∨ (qKd a).1 = 5) ∧ qin i (qKd a).2 ∧ K lo (.inr (.inr (qRf a i.toNatClampNeg)) :: st) σ
  | .iastore, [], .inl x :: .inl i :: .inr (.inr (some a)) :: st => (qKd a).1 = 0 ∧ qin i (qKd a).2 ∧ K lo st (qwi σ a i.toNatClampNeg x)
  | .lastore, [], .inr (.inl x) :: .inl i :: .inr (.inr (some a)) :: st => (qKd a).1 = 1 ∧ qin i (qKd a).2 ∧ K lo st (qwl σ a i.toNatClampNeg x)
  | .bastore, [], .inl x :: .inl i :: .inr (.inr (some a)) :: st => ((qKd a).1 = 2 ∧ qin i (qKd a).2 ∧ K lo st (qwi σ a i.toNatClampNeg x.toInt8.toInt32)) ∨ ((qKd a).1 = 3 ∧ qin i (qKd a).2 ∧ (x = nI 0 ∨ x = nI 1) ∧ K lo st (qwi σ a i.toNatClampNeg x))
  | .invokestatic n, [h], .inl z :: .inl j :: .inr (.inr (some b)) :: .inl i :: .inr (.inr (some a)) :: st => ((qKd a).1 = 0 ∧ (qKd b).1 = 0 ∧ (0 < (qKd a).2 ∧ 0 < (qKd b).2) ∧ qrg i z (qKd a).2 ∧ qrg j z (qKd b).2 ∧ qcs st ≤ 8 ∧ 0 < d ∧ K lo st (qci σ a i.toNatClampNeg b j.toNatClampNeg z.toNatClampNeg)) ∨ ((qKd a).1 = 1 ∧ (qKd b).1 = 1 ∧ (0 < (qKd a).2 ∧ 0 < (qKd b).2) ∧ qrg i z (qKd a).2 ∧ qrg j z (qKd b).2 ∧ qcs st ≤ 8 ∧ 0 < d ∧ K lo st (qcl σ a i.toNatClampNeg b j.toNatClampNeg z.toNatClampNeg))
  | .invokestatic n, [h, j], st => qmath d K lo st σ j
  | .invokestatic n, [k, h, np, rk, c], st => qcall d K lo st σ k np rk c
  | .invokevirtual n, [k, h, np, rk, c], st => qcall d K lo st σ k np rk c
  | .ireturn, [z], [.inl x] => (z = 0 ∨ (z = 1 ∧ (x = nI 0 ∨ x = nI 1))) ∧ qrI Q x σ
  | .lreturn, [], [.inr (.inl x)] => qrL Q x σ
  | .return_, [], [] => qrV Q σ
  | _, _, _ => False
def qW (d : Nat) (J : Nat → qLo → List qPV → qSg → Prop) (Q : qQ) : List qIns → qLo → List qPV → qSg → Prop
  | [] => fun _ _ _ => False
  | x :: xs => fun lo st σ => qX d J Q x.1 x.2.2 (qW d J Q xs) lo st σ

theorem qW_nop {d : Nat} {J : Nat → qLo → List qPV → qSg → Prop} {Q : qQ} (is : List qIns) (l : Nat) (lo : qLo) (st : List qPV) (σ : qSg) (t : Nat) : qW d J Q ((.nop, l, [t]) :: is) lo (st) σ = (J t lo st σ) := rfl
theorem qW_iconst {d : Nat} {J : Nat → qLo → List qPV → qSg → Prop} {Q : qQ} (is : List qIns) (l : Nat) (lo : qLo) (st : List qPV) (σ : qSg) (n : Int) (v : Nat) : qW d J Q ((.iconst n, l, [v]) :: is) lo (st) σ = (qW d J Q is lo (.inl (nI v) :: st) σ) := rfl
theorem qW_iconstm {d : Nat} {J : Nat → qLo → List qPV → qSg → Prop} {Q : qQ} (is : List qIns) (l : Nat) (lo : qLo) (st : List qPV) (σ : qSg) (n : Int) : qW d J Q ((.iconst n, l, []) :: is) lo (st) σ = (qW d J Q is lo (.inl (Int32.ofInt n) :: st) σ) := rfl
theorem qW_bipush {d : Nat} {J : Nat → qLo → List qPV → qSg → Prop} {Q : qQ} (is : List qIns) (l : Nat) (lo : qLo) (st : List qPV) (σ : qSg) (n : Int) (v : Nat) : qW d J Q ((.bipush n, l, [v]) :: is) lo (st) σ = (qW d J Q is lo (.inl (nI v) :: st) σ) := rfl
theorem qW_bipushm {d : Nat} {J : Nat → qLo → List qPV → qSg → Prop} {Q : qQ} (is : List qIns) (l : Nat) (lo : qLo) (st : List qPV) (σ : qSg) (n : Int) : qW d J Q ((.bipush n, l, []) :: is) lo (st) σ = (qW d J Q is lo (.inl (Int32.ofInt n) :: st) σ) := rfl
theorem qW_sipush {d : Nat} {J : Nat → qLo → List qPV → qSg → Prop} {Q : qQ} (is : List qIns) (l : Nat) (lo : qLo) (st : List qPV) (σ : qSg) (n : Int) (v : Nat) : qW d J Q ((.sipush n, l, [v]) :: is) lo (st) σ = (qW d J Q is lo (.inl (nI v) :: st) σ) := rfl
theorem qW_sipushm {d : Nat} {J : Nat → qLo → List qPV → qSg → Prop} {Q : qQ} (is : List qIns) (l : Nat) (lo : qLo) (st : List qPV) (σ : qSg) (n : Int) : qW d J Q ((.sipush n, l, []) :: is) lo (st) σ = (qW d J Q is lo (.inl (Int32.ofInt n) :: st) σ) := rfl
theorem qW_ldc {d : Nat} {J : Nat → qLo → List qPV → qSg → Prop} {Q : qQ} (is : List qIns) (l : Nat) (lo : qLo) (st : List qPV) (σ : qSg) (n : Nat) (v : Nat) (h : Nat) : qW d J Q ((.ldc n, l, [h, v]) :: is) lo (st) σ = (qW d J Q is lo (.inl (nI v) :: st) σ) := rfl
theorem qW_ldcs {d : Nat} {J : Nat → qLo → List qPV → qSg → Prop} {Q : qQ} (is : List qIns) (l : Nat) (lo : qLo) (st : List qPV) (σ : qSg) (n : Nat) (h : Nat) (k : Nat) (z : Nat) : qW d J Q ((.ldc n, l, [h, k, z]) :: is) lo (st) σ = (qW d J Q is lo (.inr (.inr (some k)) :: st) σ) := rfl
theorem qW_ldcw {d : Nat} {J : Nat → qLo → List qPV → qSg → Prop} {Q : qQ} (is : List qIns) (l : Nat) (lo : qLo) (st : List qPV) (σ : qSg) (n : Nat) (v : Nat) (h : Nat) : qW d J Q ((.ldc_w n, l, [h, v]) :: is) lo (st) σ = (qW d J Q is lo (.inl (nI v) :: st) σ) := rfl
theorem qW_ldc2 {d : Nat} {J : Nat → qLo → List qPV → qSg → Prop} {Q : qQ} (is : List qIns) (l : Nat) (lo : qLo) (st : List qPV) (σ : qSg) (n : Nat) (v : Nat) (h : Nat) : qW d J Q ((.ldc2_w n, l, [h, v]) :: is) lo (st) σ = (qW d J Q is lo (.inr (.inl (lN v)) :: st) σ) := rfl
theorem qW_ldc2m {d : Nat} {J : Nat → qLo → List qPV → qSg → Prop} {Q : qQ} (is : List qIns) (l : Nat) (lo : qLo) (st : List qPV) (σ : qSg) (n : Nat) (v : Nat) (h : Nat) (z : Nat) : qW d J Q ((.ldc2_w n, l, [h, v, z]) :: is) lo (st) σ = (qW d J Q is lo (.inr (.inl (-(lN v))) :: st) σ) := rfl
theorem qW_lconst {d : Nat} {J : Nat → qLo → List qPV → qSg → Prop} {Q : qQ} (is : List qIns) (l : Nat) (lo : qLo) (st : List qPV) (σ : qSg) (n : Fin 2) : qW d J Q ((.lconst n, l, []) :: is) lo (st) σ = (qW d J Q is lo (.inr (.inl (lN n)) :: st) σ) := rfl
theorem qW_iloadn {d : Nat} {J : Nat → qLo → List qPV → qSg → Prop} {Q : qQ} (is : List qIns) (l : Nat) (lo : qLo) (st : List qPV) (σ : qSg) (n : Fin 4) : qW d J Q ((.iload_n n, l, []) :: is) lo (st) σ = (qIsI (qlg lo n) ∧ qW d J Q is lo (qlg lo n :: st) σ) := rfl
theorem qW_iload {d : Nat} {J : Nat → qLo → List qPV → qSg → Prop} {Q : qQ} (is : List qIns) (l : Nat) (lo : qLo) (st : List qPV) (σ : qSg) (n : Nat) : qW d J Q ((.iload n, l, []) :: is) lo (st) σ = (qIsI (qlg lo n) ∧ qW d J Q is lo (qlg lo n :: st) σ) := rfl
theorem qW_lloadn {d : Nat} {J : Nat → qLo → List qPV → qSg → Prop} {Q : qQ} (is : List qIns) (l : Nat) (lo : qLo) (st : List qPV) (σ : qSg) (n : Fin 4) : qW d J Q ((.lload_n n, l, []) :: is) lo (st) σ = (qIsL (qlg lo n) ∧ qW d J Q is lo (qlg lo n :: st) σ) := rfl
theorem qW_lload {d : Nat} {J : Nat → qLo → List qPV → qSg → Prop} {Q : qQ} (is : List qIns) (l : Nat) (lo : qLo) (st : List qPV) (σ : qSg) (n : Nat) : qW d J Q ((.lload n, l, []) :: is) lo (st) σ = (qIsL (qlg lo n) ∧ qW d J Q is lo (qlg lo n :: st) σ) := rfl
theorem qW_aloadn {d : Nat} {J : Nat → qLo → List qPV → qSg → Prop} {Q : qQ} (is : List qIns) (l : Nat) (lo : qLo) (st : List qPV) (σ : qSg) (n : Fin 4) : qW d J Q ((.aload_n n, l, []) :: is) lo (st) σ = (qIsR (qlg lo n) ∧ qW d J Q is lo (qlg lo n :: st) σ) := rfl
theorem qW_aload {d : Nat} {J : Nat → qLo → List qPV → qSg → Prop} {Q : qQ} (is : List qIns) (l : Nat) (lo : qLo) (st : List qPV) (σ : qSg) (n : Nat) : qW d J Q ((.aload n, l, []) :: is) lo (st) σ = (qIsR (qlg lo n) ∧ qW d J Q is lo (qlg lo n :: st) σ) := rfl
theorem qW_istoren {d : Nat} {J : Nat → qLo → List qPV → qSg → Prop} {Q : qQ} (is : List qIns) (l : Nat) (lo : qLo) (st : List qPV) (σ : qSg) (n : Fin 4) (x : Int32) : qW d J Q ((.istore_n n, l, []) :: is) lo (.inl x :: st) σ = (qW d J Q is (qls lo n (.inl x)) st σ) := rfl
theorem qW_istore {d : Nat} {J : Nat → qLo → List qPV → qSg → Prop} {Q : qQ} (is : List qIns) (l : Nat) (lo : qLo) (st : List qPV) (σ : qSg) (n : Nat) (x : Int32) : qW d J Q ((.istore n, l, []) :: is) lo (.inl x :: st) σ = (qW d J Q is (qls lo n (.inl x)) st σ) := rfl
theorem qW_lstoren {d : Nat} {J : Nat → qLo → List qPV → qSg → Prop} {Q : qQ} (is : List qIns) (l : Nat) (lo : qLo) (st : List qPV) (σ : qSg) (n : Fin 4) (x : Int64) : qW d J Q ((.lstore_n n, l, []) :: is) lo (.inr (.inl x) :: st) σ = (qW d J Q is (qls lo n (.inr (.inl x))) st σ) := rfl
theorem qW_lstore {d : Nat} {J : Nat → qLo → List qPV → qSg → Prop} {Q : qQ} (is : List qIns) (l : Nat) (lo : qLo) (st : List qPV) (σ : qSg) (n : Nat) (x : Int64) : qW d J Q ((.lstore n, l, []) :: is) lo (.inr (.inl x) :: st) σ = (qW d J Q is (qls lo n (.inr (.inl x))) st σ) := rfl
theorem qW_astoren {d : Nat} {J : Nat → qLo → List qPV → qSg → Prop} {Q : qQ} (is : List qIns) (l : Nat) (lo : qLo) (st : List qPV) (σ : qSg) (n : Fin 4) (x : Nat) : qW d J Q ((.astore_n n, l, []) :: is) lo (.inr (.inr (some x)) :: st) σ = (qW d J Q is (qls lo n (.inr (.inr (some x)))) st σ) := rfl
theorem qW_astore {d : Nat} {J : Nat → qLo → List qPV → qSg → Prop} {Q : qQ} (is : List qIns) (l : Nat) (lo : qLo) (st : List qPV) (σ : qSg) (n : Nat) (x : Nat) : qW d J Q ((.astore n, l, []) :: is) lo (.inr (.inr (some x)) :: st) σ = (qW d J Q is (qls lo n (.inr (.inr (some x)))) st σ) := rfl
theorem qW_iinc {d : Nat} {J : Nat → qLo → List qPV → qSg → Prop} {Q : qQ} (is : List qIns) (l : Nat) (lo : qLo) (st : List qPV) (σ : qSg) (n : Nat) (c : Int) (v : Nat) : qW d J Q ((.iinc n c, l, [v]) :: is) lo (st) σ = (qIsI (qlg lo n) ∧ qW d J Q is (qls lo n (.inl (qint (qlg lo n) + nI v))) st σ) := rfl
theorem qW_iincm {d : Nat} {J : Nat → qLo → List qPV → qSg → Prop} {Q : qQ} (is : List qIns) (l : Nat) (lo : qLo) (st : List qPV) (σ : qSg) (n : Nat) (c : Int) : qW d J Q ((.iinc n c, l, []) :: is) lo (st) σ = (qIsI (qlg lo n) ∧ qW d J Q is (qls lo n (.inl (qint (qlg lo n) + Int32.ofInt c))) st σ) := rfl
theorem qW_iadd {d : Nat} {J : Nat → qLo → List qPV → qSg → Prop} {Q : qQ} (is : List qIns) (l : Nat) (lo : qLo) (st : List qPV) (σ : qSg) (x : Int32) (y : Int32) : qW d J Q ((.iadd, l, []) :: is) lo (.inl y :: .inl x :: st) σ = (qW d J Q is lo (.inl (x + y) :: st) σ) := rfl
theorem qW_isub {d : Nat} {J : Nat → qLo → List qPV → qSg → Prop} {Q : qQ} (is : List qIns) (l : Nat) (lo : qLo) (st : List qPV) (σ : qSg) (x : Int32) (y : Int32) : qW d J Q ((.isub, l, []) :: is) lo (.inl y :: .inl x :: st) σ = (qW d J Q is lo (.inl (x - y) :: st) σ) := rfl
theorem qW_imul {d : Nat} {J : Nat → qLo → List qPV → qSg → Prop} {Q : qQ} (is : List qIns) (l : Nat) (lo : qLo) (st : List qPV) (σ : qSg) (x : Int32) (y : Int32) : qW d J Q ((.imul, l, []) :: is) lo (.inl y :: .inl x :: st) σ = (qW d J Q is lo (.inl (x * y) :: st) σ) := rfl
theorem qW_iand {d : Nat} {J : Nat → qLo → List qPV → qSg → Prop} {Q : qQ} (is : List qIns) (l : Nat) (lo : qLo) (st : List qPV) (σ : qSg) (x : Int32) (y : Int32) : qW d J Q ((.iand, l, []) :: is) lo (.inl y :: .inl x :: st) σ = (qW d J Q is lo (.inl (x &&& y) :: st) σ) := rfl
theorem qW_ior {d : Nat} {J : Nat → qLo → List qPV → qSg → Prop} {Q : qQ} (is : List qIns) (l : Nat) (lo : qLo) (st : List qPV) (σ : qSg) (x : Int32) (y : Int32) : qW d J Q ((.ior, l, []) :: is) lo (.inl y :: .inl x :: st) σ = (qW d J Q is lo (.inl (x ||| y) :: st) σ) := rfl
theorem qW_ixor {d : Nat} {J : Nat → qLo → List qPV → qSg → Prop} {Q : qQ} (is : List qIns) (l : Nat) (lo : qLo) (st : List qPV) (σ : qSg) (x : Int32) (y : Int32) : qW d J Q ((.ixor, l, []) :: is) lo (.inl y :: .inl x :: st) σ = (qW d J Q is lo (.inl (x ^^^ y) :: st) σ) := rfl
theorem qW_ishl {d : Nat} {J : Nat → qLo → List qPV → qSg → Prop} {Q : qQ} (is : List qIns) (l : Nat) (lo : qLo) (st : List qPV) (σ : qSg) (x : Int32) (y : Int32) : qW d J Q ((.ishl, l, []) :: is) lo (.inl y :: .inl x :: st) σ = (qW d J Q is lo (.inl (x <<< (y &&& 31)) :: st) σ) := rfl
theorem qW_ishr {d : Nat} {J : Nat → qLo → List qPV → qSg → Prop} {Q : qQ} (is : List qIns) (l : Nat) (lo : qLo) (st : List qPV) (σ : qSg) (x : Int32) (y : Int32) : qW d J Q ((.ishr, l, []) :: is) lo (.inl y :: .inl x :: st) σ = (qW d J Q is lo (.inl (x >>> (y &&& 31)) :: st) σ) := rfl
theorem qW_iushr {d : Nat} {J : Nat → qLo → List qPV → qSg → Prop} {Q : qQ} (is : List qIns) (l : Nat) (lo : qLo) (st : List qPV) (σ : qSg) (x : Int32) (y : Int32) : qW d J Q ((.iushr, l, []) :: is) lo (.inl y :: .inl x :: st) σ = (qW d J Q is lo (.inl ((x.toUInt32 >>> (y.toUInt32 &&& Int32.toUInt32 31)).toInt32) :: st) σ) := rfl
theorem qW_idiv {d : Nat} {J : Nat → qLo → List qPV → qSg → Prop} {Q : qQ} (is : List qIns) (l : Nat) (lo : qLo) (st : List qPV) (σ : qSg) (x : Int32) (y : Int32) : qW d J Q ((.idiv, l, []) :: is) lo (.inl y :: .inl x :: st) σ = (¬ y = 0 ∧ qW d J Q is lo (.inl (x / y) :: st) σ) := rfl
theorem qW_irem {d : Nat} {J : Nat → qLo → List qPV → qSg → Prop} {Q : qQ} (is : List qIns) (l : Nat) (lo : qLo) (st : List qPV) (σ : qSg) (x : Int32) (y : Int32) : qW d J Q ((.irem, l, []) :: is) lo (.inl y :: .inl x :: st) σ = (¬ y = 0 ∧ qW d J Q is lo (.inl (x - x / y * y) :: st) σ) := rfl
theorem qW_ineg {d : Nat} {J : Nat → qLo → List qPV → qSg → Prop} {Q : qQ} (is : List qIns) (l : Nat) (lo : qLo) (st : List qPV) (σ : qSg) (x : Int32) : qW d J Q ((.ineg, l, []) :: is) lo (.inl x :: st) σ = (qW d J Q is lo (.inl (-x) :: st) σ) := rfl
theorem qW_ladd {d : Nat} {J : Nat → qLo → List qPV → qSg → Prop} {Q : qQ} (is : List qIns) (l : Nat) (lo : qLo) (st : List qPV) (σ : qSg) (x : Int64) (y : Int64) : qW d J Q ((.ladd, l, []) :: is) lo (.inr (.inl y) :: .inr (.inl x) :: st) σ = (qW d J Q is lo (.inr (.inl (x + y)) :: st) σ) := rfl
theorem qW_lsub {d : Nat} {J : Nat → qLo → List qPV → qSg → Prop} {Q : qQ} (is : List qIns) (l : Nat) (lo : qLo) (st : List qPV) (σ : qSg) (x : Int64) (y : Int64) : qW d J Q ((.lsub, l, []) :: is) lo (.inr (.inl y) :: .inr (.inl x) :: st) σ = (qW d J Q is lo (.inr (.inl (x - y)) :: st) σ) := rfl
theorem qW_lmul {d : Nat} {J : Nat → qLo → List qPV → qSg → Prop} {Q : qQ} (is : List qIns) (l : Nat) (lo : qLo) (st : List qPV) (σ : qSg) (x : Int64) (y : Int64) : qW d J Q ((.lmul, l, []) :: is) lo (.inr (.inl y) :: .inr (.inl x) :: st) σ = (qW d J Q is lo (.inr (.inl (x * y)) :: st) σ) := rfl
theorem qW_land {d : Nat} {J : Nat → qLo → List qPV → qSg → Prop} {Q : qQ} (is : List qIns) (l : Nat) (lo : qLo) (st : List qPV) (σ : qSg) (x : Int64) (y : Int64) : qW d J Q ((.land, l, []) :: is) lo (.inr (.inl y) :: .inr (.inl x) :: st) σ = (qW d J Q is lo (.inr (.inl (x &&& y)) :: st) σ) := rfl
theorem qW_lor {d : Nat} {J : Nat → qLo → List qPV → qSg → Prop} {Q : qQ} (is : List qIns) (l : Nat) (lo : qLo) (st : List qPV) (σ : qSg) (x : Int64) (y : Int64) : qW d J Q ((.lor, l, []) :: is) lo (.inr (.inl y) :: .inr (.inl x) :: st) σ = (qW d J Q is lo (.inr (.inl (x ||| y)) :: st) σ) := rfl
theorem qW_ldiv {d : Nat} {J : Nat → qLo → List qPV → qSg → Prop} {Q : qQ} (is : List qIns) (l : Nat) (lo : qLo) (st : List qPV) (σ : qSg) (x : Int64) (y : Int64) : qW d J Q ((.ldiv, l, []) :: is) lo (.inr (.inl y) :: .inr (.inl x) :: st) σ = (¬ y = 0 ∧ qW d J Q is lo (.inr (.inl (x / y)) :: st) σ) := rfl
theorem qW_lrem {d : Nat} {J : Nat → qLo → List qPV → qSg → Prop} {Q : qQ} (is : List qIns) (l : Nat) (lo : qLo) (st : List qPV) (σ : qSg) (x : Int64) (y : Int64) : qW d J Q ((.lrem, l, []) :: is) lo (.inr (.inl y) :: .inr (.inl x) :: st) σ = (¬ y = 0 ∧ qW d J Q is lo (.inr (.inl (x - x / y * y)) :: st) σ) := rfl
theorem qW_lshl {d : Nat} {J : Nat → qLo → List qPV → qSg → Prop} {Q : qQ} (is : List qIns) (l : Nat) (lo : qLo) (st : List qPV) (σ : qSg) (x : Int64) (y : Int32) : qW d J Q ((.lshl, l, []) :: is) lo (.inl y :: .inr (.inl x) :: st) σ = (qW d J Q is lo (.inr (.inl (x <<< (y.toInt64 &&& 63))) :: st) σ) := rfl
theorem qW_lcmp {d : Nat} {J : Nat → qLo → List qPV → qSg → Prop} {Q : qQ} (is : List qIns) (l : Nat) (lo : qLo) (st : List qPV) (σ : qSg) (x : Int64) (y : Int64) : qW d J Q ((.lcmp, l, []) :: is) lo (.inr (.inl y) :: .inr (.inl x) :: st) σ = (qW d J Q is lo (.inl (lg_cmp x y) :: st) σ) := rfl
theorem qW_i2l {d : Nat} {J : Nat → qLo → List qPV → qSg → Prop} {Q : qQ} (is : List qIns) (l : Nat) (lo : qLo) (st : List qPV) (σ : qSg) (x : Int32) : qW d J Q ((.i2l, l, []) :: is) lo (.inl x :: st) σ = (qW d J Q is lo (.inr (.inl x.toInt64) :: st) σ) := rfl
theorem qW_l2i {d : Nat} {J : Nat → qLo → List qPV → qSg → Prop} {Q : qQ} (is : List qIns) (l : Nat) (lo : qLo) (st : List qPV) (σ : qSg) (x : Int64) : qW d J Q ((.l2i, l, []) :: is) lo (.inr (.inl x) :: st) σ = (qW d J Q is lo (.inl x.toInt32 :: st) σ) := rfl
theorem qW_i2b {d : Nat} {J : Nat → qLo → List qPV → qSg → Prop} {Q : qQ} (is : List qIns) (l : Nat) (lo : qLo) (st : List qPV) (σ : qSg) (x : Int32) : qW d J Q ((.i2b, l, []) :: is) lo (.inl x :: st) σ = (qW d J Q is lo (.inl x.toInt8.toInt32 :: st) σ) := rfl
theorem qW_i2s {d : Nat} {J : Nat → qLo → List qPV → qSg → Prop} {Q : qQ} (is : List qIns) (l : Nat) (lo : qLo) (st : List qPV) (σ : qSg) (x : Int32) : qW d J Q ((.i2s, l, []) :: is) lo (.inl x :: st) σ = (qW d J Q is lo (.inl x.toInt16.toInt32 :: st) σ) := rfl
theorem qW_dup {d : Nat} {J : Nat → qLo → List qPV → qSg → Prop} {Q : qQ} (is : List qIns) (l : Nat) (lo : qLo) (st : List qPV) (σ : qSg) (v : qPV) : qW d J Q ((.dup, l, []) :: is) lo (v :: st) σ = (qil v = false ∧ qW d J Q is lo (v :: v :: st) σ) := rfl
theorem qW_pop {d : Nat} {J : Nat → qLo → List qPV → qSg → Prop} {Q : qQ} (is : List qIns) (l : Nat) (lo : qLo) (st : List qPV) (σ : qSg) (v : qPV) : qW d J Q ((.pop, l, []) :: is) lo (v :: st) σ = (qil v = false ∧ qW d J Q is lo st σ) := rfl
theorem qW_dup2 {d : Nat} {J : Nat → qLo → List qPV → qSg → Prop} {Q : qQ} (is : List qIns) (l : Nat) (lo : qLo) (st : List qPV) (σ : qSg) (v : qPV) (u : qPV) : qW d J Q ((.dup2, l, []) :: is) lo (v :: u :: st) σ = (qil v = false ∧ qil u = false ∧ qW d J Q is lo (v :: u :: v :: u :: st) σ) := rfl
theorem qW_acnull {d : Nat} {J : Nat → qLo → List qPV → qSg → Prop} {Q : qQ} (is : List qIns) (l : Nat) (lo : qLo) (st : List qPV) (σ : qSg)  : qW d J Q ((.aconst_null, l, []) :: is) lo (st) σ = (qW d J Q is lo (.inr (.inr none) :: st) σ) := rfl
theorem qW_ifeq {d : Nat} {J : Nat → qLo → List qPV → qSg → Prop} {Q : qQ} (is : List qIns) (l : Nat) (lo : qLo) (st : List qPV) (σ : qSg) (t : Nat) (o : Int) (x : Int32) : qW d J Q ((.ifCond .eq o, l, [t]) :: is) lo (.inl x :: st) σ = ((x = 0 → J t lo st σ) ∧ (¬ x = 0 → qW d J Q is lo st σ)) := rfl
theorem qW_iceq {d : Nat} {J : Nat → qLo → List qPV → qSg → Prop} {Q : qQ} (is : List qIns) (l : Nat) (lo : qLo) (st : List qPV) (σ : qSg) (t : Nat) (o : Int) (x : Int32) (y : Int32) : qW d J Q ((.if_icmp .eq o, l, [t]) :: is) lo (.inl y :: .inl x :: st) σ = ((x = y → J t lo st σ) ∧ (¬ x = y → qW d J Q is lo st σ)) := rfl
theorem qW_ifne {d : Nat} {J : Nat → qLo → List qPV → qSg → Prop} {Q : qQ} (is : List qIns) (l : Nat) (lo : qLo) (st : List qPV) (σ : qSg) (t : Nat) (o : Int) (x : Int32) : qW d J Q ((.ifCond .ne o, l, [t]) :: is) lo (.inl x :: st) σ = ((¬ x = 0 → J t lo st σ) ∧ (x = 0 → qW d J Q is lo st σ)) := rfl
theorem qW_icne {d : Nat} {J : Nat → qLo → List qPV → qSg → Prop} {Q : qQ} (is : List qIns) (l : Nat) (lo : qLo) (st : List qPV) (σ : qSg) (t : Nat) (o : Int) (x : Int32) (y : Int32) : qW d J Q ((.if_icmp .ne o, l, [t]) :: is) lo (.inl y :: .inl x :: st) σ = ((¬ x = y → J t lo st σ) ∧ (x = y → qW d J Q is lo st σ)) := rfl
theorem qW_iflt {d : Nat} {J : Nat → qLo → List qPV → qSg → Prop} {Q : qQ} (is : List qIns) (l : Nat) (lo : qLo) (st : List qPV) (σ : qSg) (t : Nat) (o : Int) (x : Int32) : qW d J Q ((.ifCond .lt o, l, [t]) :: is) lo (.inl x :: st) σ = ((x < 0 → J t lo st σ) ∧ (¬ x < 0 → qW d J Q is lo st σ)) := rfl
theorem qW_iclt {d : Nat} {J : Nat → qLo → List qPV → qSg → Prop} {Q : qQ} (is : List qIns) (l : Nat) (lo : qLo) (st : List qPV) (σ : qSg) (t : Nat) (o : Int) (x : Int32) (y : Int32) : qW d J Q ((.if_icmp .lt o, l, [t]) :: is) lo (.inl y :: .inl x :: st) σ = ((x < y → J t lo st σ) ∧ (¬ x < y → qW d J Q is lo st σ)) := rfl
theorem qW_ifge {d : Nat} {J : Nat → qLo → List qPV → qSg → Prop} {Q : qQ} (is : List qIns) (l : Nat) (lo : qLo) (st : List qPV) (σ : qSg) (t : Nat) (o : Int) (x : Int32) : qW d J Q ((.ifCond .ge o, l, [t]) :: is) lo (.inl x :: st) σ = ((0 ≤ x → J t lo st σ) ∧ (¬ 0 ≤ x → qW d J Q is lo st σ)) := rfl
theorem qW_icge {d : Nat} {J : Nat → qLo → List qPV → qSg → Prop} {Q : qQ} (is : List qIns) (l : Nat) (lo : qLo) (st : List qPV) (σ : qSg) (t : Nat) (o : Int) (x : Int32) (y : Int32) : qW d J Q ((.if_icmp .ge o, l, [t]) :: is) lo (.inl y :: .inl x :: st) σ = ((y ≤ x → J t lo st σ) ∧ (¬ y ≤ x → qW d J Q is lo st σ)) := rfl
theorem qW_ifgt {d : Nat} {J : Nat → qLo → List qPV → qSg → Prop} {Q : qQ} (is : List qIns) (l : Nat) (lo : qLo) (st : List qPV) (σ : qSg) (t : Nat) (o : Int) (x : Int32) : qW d J Q ((.ifCond .gt o, l, [t]) :: is) lo (.inl x :: st) σ = ((0 < x → J t lo st σ) ∧ (¬ 0 < x → qW d J Q is lo st σ)) := rfl
theorem qW_icgt {d : Nat} {J : Nat → qLo → List qPV → qSg → Prop} {Q : qQ} (is : List qIns) (l : Nat) (lo : qLo) (st : List qPV) (σ : qSg) (t : Nat) (o : Int) (x : Int32) (y : Int32) : qW d J Q ((.if_icmp .gt o, l, [t]) :: is) lo (.inl y :: .inl x :: st) σ = ((y < x → J t lo st σ) ∧ (¬ y < x → qW d J Q is lo st σ)) := rfl
theorem qW_ifle {d : Nat} {J : Nat → qLo → List qPV → qSg → Prop} {Q : qQ} (is : List qIns) (l : Nat) (lo : qLo) (st : List qPV) (σ : qSg) (t : Nat) (o : Int) (x : Int32) : qW d J Q ((.ifCond .le o, l, [t]) :: is) lo (.inl x :: st) σ = ((x ≤ 0 → J t lo st σ) ∧ (¬ x ≤ 0 → qW d J Q is lo st σ)) := rfl
theorem qW_icle {d : Nat} {J : Nat → qLo → List qPV → qSg → Prop} {Q : qQ} (is : List qIns) (l : Nat) (lo : qLo) (st : List qPV) (σ : qSg) (t : Nat) (o : Int) (x : Int32) (y : Int32) : qW d J Q ((.if_icmp .le o, l, [t]) :: is) lo (.inl y :: .inl x :: st) σ = ((x ≤ y → J t lo st σ) ∧ (¬ x ≤ y → qW d J Q is lo st σ)) := rfl
theorem qW_goto {d : Nat} {J : Nat → qLo → List qPV → qSg → Prop} {Q : qQ} (is : List qIns) (l : Nat) (lo : qLo) (st : List qPV) (σ : qSg) (t : Nat) (o : Int) : qW d J Q ((.goto o, l, [t]) :: is) lo (st) σ = (J t lo st σ) := rfl
theorem qW_ifnull {d : Nat} {J : Nat → qLo → List qPV → qSg → Prop} {Q : qQ} (is : List qIns) (l : Nat) (lo : qLo) (st : List qPV) (σ : qSg) (t : Nat) (o : Int) (x : Nat) : qW d J Q ((.ifnull o, l, [t]) :: is) lo (.inr (.inr (some x)) :: st) σ = (qW d J Q is lo st σ) := rfl
theorem qW_ifnonnull {d : Nat} {J : Nat → qLo → List qPV → qSg → Prop} {Q : qQ} (is : List qIns) (l : Nat) (lo : qLo) (st : List qPV) (σ : qSg) (t : Nat) (o : Int) (x : Nat) : qW d J Q ((.ifnonnull o, l, [t]) :: is) lo (.inr (.inr (some x)) :: st) σ = (J t lo st σ) := rfl
theorem qW_tsw {d : Nat} {J : Nat → qLo → List qPV → qSg → Prop} {Q : qQ} (is : List qIns) (l : Nat) (lo : qLo) (st : List qPV) (σ : qSg) (t : Nat) (e : Int) (a : Int) (b : Int) (x : Int32) (os : Array Int) (ts : List Nat) : qW d J Q ((.tableswitch e a b os, l, t :: ts) :: is) lo (.inl x :: st) σ = (qsw J lo st σ x a b t ts) := rfl
theorem qW_getf {d : Nat} {J : Nat → qLo → List qPV → qSg → Prop} {Q : qQ} (is : List qIns) (l : Nat) (lo : qLo) (st : List qPV) (σ : qSg) (n : Nat) (c : Nat) (h : Nat) (k : Nat) (f : Nat) (a : Nat) : qW d J Q ((.getfield n, l, [c, k, h, f]) :: is) lo (.inr (.inr (some a)) :: st) σ = ((qKd a).1 = 10 + c ∧ qW d J Q is lo (qfl σ a k f :: st) σ) := rfl
theorem qW_putfI {d : Nat} {J : Nat → qLo → List qPV → qSg → Prop} {Q : qQ} (is : List qIns) (l : Nat) (lo : qLo) (st : List qPV) (σ : qSg) (n : Nat) (c : Nat) (h : Nat) (k : Nat) (f : Nat) (a : Nat) (x : Int32) : qW d J Q ((.putfield n, l, [c, k, h, f]) :: is) lo (.inl x :: .inr (.inr (some a)) :: st) σ = ((f = 0 ∨ (f = 3 ∧ (x = nI 0 ∨ x = nI 1))) ∧ (qKd a).1 = 10 + c ∧ qW d J Q is lo st (qwi σ a k x)) := rfl
theorem qW_putfL {d : Nat} {J : Nat → qLo → List qPV → qSg → Prop} {Q : qQ} (is : List qIns) (l : Nat) (lo : qLo) (st : List qPV) (σ : qSg) (n : Nat) (c : Nat) (h : Nat) (k : Nat) (f : Nat) (a : Nat) (x : Int64) : qW d J Q ((.putfield n, l, [c, k, h, f]) :: is) lo (.inr (.inl x) :: .inr (.inr (some a)) :: st) σ = (f = 1 ∧ (qKd a).1 = 10 + c ∧ qW d J Q is lo st (qwl σ a k x)) := rfl
theorem qW_iald {d : Nat} {J : Nat → qLo → List qPV → qSg → Prop} {Q : qQ} (is : List qIns) (l : Nat) (lo : qLo) (st : List qPV) (σ : qSg) (a : Nat) (i : Int32) : qW d J Q ((.iaload, l, []) :: is) lo (.inl i :: .inr (.inr (some a)) :: st) σ = ((qKd a).1 = 0 ∧ qin i (qKd a).2 ∧ qW d J Q is lo (.inl (σ.1 a i.toNatClampNeg) :: st) σ) := rfl
theorem qW_lald {d : Nat} {J : Nat → qLo → List qPV → qSg → Prop} {Q : qQ} (is : List qIns) (l : Nat) (lo : qLo) (st : List qPV) (σ : qSg) (a : Nat) (i : Int32) : qW d J Q ((.laload, l, []) :: is) lo (.inl i :: .inr (.inr (some a)) :: st) σ = ((qKd a).1 = 1 ∧ qin i (qKd a).2 ∧ qW d J Q is lo (.inr (.inl (σ.2 a i.toNatClampNeg)) :: st) σ) := rfl
theorem qW_bald {d : Nat} {J : Nat → qLo → List qPV → qSg → Prop} {Q : qQ} (is : List qIns) (l : Nat) (lo : qLo) (st : List qPV) (σ : qSg) (a : Nat) (i : Int32) : qW d J Q ((.baload, l, []) :: is) lo (.inl i :: .inr (.inr (some a)) :: st) σ = (((qKd a).1 = 2 ∨ (qKd a).1 = 3) ∧ qin i (qKd a).2 ∧ qW d J Q is lo (.inl (σ.1 a i.toNatClampNeg) :: st) σ) := rfl
theorem qW_aald {d : Nat} {J : Nat → qLo → List qPV → qSg → Prop} {Q : qQ} (is : List qIns) (l : Nat) (lo : qLo) (st : List qPV) (σ : qSg) (a : Nat) (i : Int32) : qW d J Q ((.aaload, l, []) :: is) lo (.inl i :: .inr (.inr (some a)) :: st) σ = (((qKd a).1 = 4 ∨ (qKd a).1 = 5) ∧ qin i (qKd a).2 ∧ qW d J Q is lo (.inr (.inr (qRf a i.toNatClampNeg)) :: st) σ) := rfl
theorem qW_iast {d : Nat} {J : Nat → qLo → List qPV → qSg → Prop} {Q : qQ} (is : List qIns) (l : Nat) (lo : qLo) (st : List qPV) (σ : qSg) (a : Nat) (i : Int32) (x : Int32) : qW d J Q ((.iastore, l, []) :: is) lo (.inl x :: .inl i :: .inr (.inr (some a)) :: st) σ = ((qKd a).1 = 0 ∧ qin i (qKd a).2 ∧ qW d J Q is lo st (qwi σ a i.toNatClampNeg x)) := rfl
theorem qW_last {d : Nat} {J : Nat → qLo → List qPV → qSg → Prop} {Q : qQ} (is : List qIns) (l : Nat) (lo : qLo) (st : List qPV) (σ : qSg) (a : Nat) (i : Int32) (x : Int64) : qW d J Q ((.lastore, l, []) :: is) lo (.inr (.inl x) :: .inl i :: .inr (.inr (some a)) :: st) σ = ((qKd a).1 = 1 ∧ qin i (qKd a).2 ∧ qW d J Q is lo st (qwl σ a i.toNatClampNeg x)) := rfl
theorem qW_bast {d : Nat} {J : Nat → qLo → List qPV → qSg → Prop} {Q : qQ} (is : List qIns) (l : Nat) (lo : qLo) (st : List qPV) (σ : qSg) (a : Nat) (i : Int32) (x : Int32) : qW d J Q ((.bastore, l, []) :: is) lo (.inl x :: .inl i :: .inr (.inr (some a)) :: st) σ = (((qKd a).1 = 2 ∧ qin i (qKd a).2 ∧ qW d J Q is lo st (qwi σ a i.toNatClampNeg x.toInt8.toInt32)) ∨ ((qKd a).1 = 3 ∧ qin i (qKd a).2 ∧ (x = nI 0 ∨ x = nI 1) ∧ qW d J Q is lo st (qwi σ a i.toNatClampNeg x))) := rfl
theorem qW_cpy {d : Nat} {J : Nat → qLo → List qPV → qSg → Prop} {Q : qQ} (is : List qIns) (l : Nat) (lo : qLo) (st : List qPV) (σ : qSg) (n : Nat) (h : Nat) (z : Int32) (a : Nat) (b : Nat) (i : Int32) (j : Int32) : qW d J Q ((.invokestatic n, l, [h]) :: is) lo (.inl z :: .inl j :: .inr (.inr (some b)) :: .inl i :: .inr (.inr (some a)) :: st) σ = (((qKd a).1 = 0 ∧ (qKd b).1 = 0 ∧ (0 < (qKd a).2 ∧ 0 < (qKd b).2) ∧ qrg i z (qKd a).2 ∧ qrg j z (qKd b).2 ∧ qcs st ≤ 8 ∧ 0 < d ∧ qW d J Q is lo st (qci σ a i.toNatClampNeg b j.toNatClampNeg z.toNatClampNeg)) ∨ ((qKd a).1 = 1 ∧ (qKd b).1 = 1 ∧ (0 < (qKd a).2 ∧ 0 < (qKd b).2) ∧ qrg i z (qKd a).2 ∧ qrg j z (qKd b).2 ∧ qcs st ≤ 8 ∧ 0 < d ∧ qW d J Q is lo st (qcl σ a i.toNatClampNeg b j.toNatClampNeg z.toNatClampNeg))) := rfl
theorem qW_math {d : Nat} {J : Nat → qLo → List qPV → qSg → Prop} {Q : qQ} (is : List qIns) (l : Nat) (lo : qLo) (st : List qPV) (σ : qSg) (n : Nat) (h : Nat) (j : Nat) : qW d J Q ((.invokestatic n, l, [h, j]) :: is) lo (st) σ = (qmath d (qW d J Q is) lo st σ j) := rfl
theorem qW_call {d : Nat} {J : Nat → qLo → List qPV → qSg → Prop} {Q : qQ} (is : List qIns) (l : Nat) (lo : qLo) (st : List qPV) (σ : qSg) (n : Nat) (c : Nat) (h : Nat) (k : Nat) (np rk : Nat) : qW d J Q ((.invokestatic n, l, [k, h, np, rk, c]) :: is) lo (st) σ = (qcall d (qW d J Q is) lo st σ k np rk c) := rfl
theorem qW_callv {d : Nat} {J : Nat → qLo → List qPV → qSg → Prop} {Q : qQ} (is : List qIns) (l : Nat) (lo : qLo) (st : List qPV) (σ : qSg) (n : Nat) (c : Nat) (h : Nat) (k : Nat) (np rk : Nat) : qW d J Q ((.invokevirtual n, l, [k, h, np, rk, c]) :: is) lo (st) σ = (qcall d (qW d J Q is) lo st σ k np rk c) := rfl
theorem qW_iret {d : Nat} {J : Nat → qLo → List qPV → qSg → Prop} {Q : qQ} (is : List qIns) (l : Nat) (lo : qLo) (σ : qSg) (z : Nat) (x : Int32) : qW d J Q ((.ireturn, l, [z]) :: is) lo [.inl x] σ = ((z = 0 ∨ (z = 1 ∧ (x = nI 0 ∨ x = nI 1))) ∧ qrI Q x σ) := rfl
theorem qW_lret {d : Nat} {J : Nat → qLo → List qPV → qSg → Prop} {Q : qQ} (is : List qIns) (l : Nat) (lo : qLo) (σ : qSg) (x : Int64) : qW d J Q ((.lreturn, l, []) :: is) lo [.inr (.inl x)] σ = (qrL Q x σ) := rfl
theorem qW_vret {d : Nat} {J : Nat → qLo → List qPV → qSg → Prop} {Q : qQ} (is : List qIns) (l : Nat) (lo : qLo) (σ : qSg)  : qW d J Q ((.return_, l, []) :: is) lo [] σ = (qrV Q σ) := rfl
theorem qW_cs0_0 {d : Nat} {J : Nat → qLo → List qPV → qSg → Prop} {Q : qQ} (is : List qIns) (l : Nat) (lo : qLo) (st : List qPV) (σ : qSg) (n k h c : Nat) : qW d J Q ((.invokestatic n, l, [k, h, 0, 0, c]) :: is) lo (st) σ = (qcs st ≤ 8 ∧ qRcv c [] ∧ qBI d k [] σ (fun r σ1 => qW d J Q is lo (.inl r :: st) σ1)) := by
  rw [qW_call]
  simp [qcall]
theorem qW_cs0_1 {d : Nat} {J : Nat → qLo → List qPV → qSg → Prop} {Q : qQ} (is : List qIns) (l : Nat) (lo : qLo) (st : List qPV) (σ : qSg) (n k h c : Nat) : qW d J Q ((.invokestatic n, l, [k, h, 0, 1, c]) :: is) lo (st) σ = (qcs st ≤ 8 ∧ qRcv c [] ∧ qBL d k [] σ (fun r σ1 => qW d J Q is lo (.inr (.inl r) :: st) σ1)) := by
  rw [qW_call]
  simp [qcall]
theorem qW_cs0_2 {d : Nat} {J : Nat → qLo → List qPV → qSg → Prop} {Q : qQ} (is : List qIns) (l : Nat) (lo : qLo) (st : List qPV) (σ : qSg) (n k h c : Nat) : qW d J Q ((.invokestatic n, l, [k, h, 0, 2, c]) :: is) lo (st) σ = (qcs st ≤ 8 ∧ qRcv c [] ∧ qBV d k [] σ (fun σ1 => qW d J Q is lo st σ1)) := by
  rw [qW_call]
  simp [qcall]
theorem qW_cs1_0 {d : Nat} {J : Nat → qLo → List qPV → qSg → Prop} {Q : qQ} (is : List qIns) (l : Nat) (lo : qLo) (st : List qPV) (σ : qSg) (v0 : qPV) (n k h c : Nat) : qW d J Q ((.invokestatic n, l, [k, h, 1, 0, c]) :: is) lo (v0 :: st) σ = (qcs st ≤ 8 ∧ qRcv c [v0] ∧ qBI d k [v0] σ (fun r σ1 => qW d J Q is lo (.inl r :: st) σ1)) := by
  rw [qW_call]
  simp [qcall]
theorem qW_cs1_1 {d : Nat} {J : Nat → qLo → List qPV → qSg → Prop} {Q : qQ} (is : List qIns) (l : Nat) (lo : qLo) (st : List qPV) (σ : qSg) (v0 : qPV) (n k h c : Nat) : qW d J Q ((.invokestatic n, l, [k, h, 1, 1, c]) :: is) lo (v0 :: st) σ = (qcs st ≤ 8 ∧ qRcv c [v0] ∧ qBL d k [v0] σ (fun r σ1 => qW d J Q is lo (.inr (.inl r) :: st) σ1)) := by
  rw [qW_call]
  simp [qcall]
theorem qW_cs1_2 {d : Nat} {J : Nat → qLo → List qPV → qSg → Prop} {Q : qQ} (is : List qIns) (l : Nat) (lo : qLo) (st : List qPV) (σ : qSg) (v0 : qPV) (n k h c : Nat) : qW d J Q ((.invokestatic n, l, [k, h, 1, 2, c]) :: is) lo (v0 :: st) σ = (qcs st ≤ 8 ∧ qRcv c [v0] ∧ qBV d k [v0] σ (fun σ1 => qW d J Q is lo st σ1)) := by
  rw [qW_call]
  simp [qcall]
theorem qW_cs2_0 {d : Nat} {J : Nat → qLo → List qPV → qSg → Prop} {Q : qQ} (is : List qIns) (l : Nat) (lo : qLo) (st : List qPV) (σ : qSg) (v0 v1 : qPV) (n k h c : Nat) : qW d J Q ((.invokestatic n, l, [k, h, 2, 0, c]) :: is) lo (v1 :: v0 :: st) σ = (qcs st ≤ 8 ∧ qRcv c [v0, v1] ∧ qBI d k [v0, v1] σ (fun r σ1 => qW d J Q is lo (.inl r :: st) σ1)) := by
  rw [qW_call]
  simp [qcall]
theorem qW_cs2_1 {d : Nat} {J : Nat → qLo → List qPV → qSg → Prop} {Q : qQ} (is : List qIns) (l : Nat) (lo : qLo) (st : List qPV) (σ : qSg) (v0 v1 : qPV) (n k h c : Nat) : qW d J Q ((.invokestatic n, l, [k, h, 2, 1, c]) :: is) lo (v1 :: v0 :: st) σ = (qcs st ≤ 8 ∧ qRcv c [v0, v1] ∧ qBL d k [v0, v1] σ (fun r σ1 => qW d J Q is lo (.inr (.inl r) :: st) σ1)) := by
  rw [qW_call]
  simp [qcall]
theorem qW_cs2_2 {d : Nat} {J : Nat → qLo → List qPV → qSg → Prop} {Q : qQ} (is : List qIns) (l : Nat) (lo : qLo) (st : List qPV) (σ : qSg) (v0 v1 : qPV) (n k h c : Nat) : qW d J Q ((.invokestatic n, l, [k, h, 2, 2, c]) :: is) lo (v1 :: v0 :: st) σ = (qcs st ≤ 8 ∧ qRcv c [v0, v1] ∧ qBV d k [v0, v1] σ (fun σ1 => qW d J Q is lo st σ1)) := by
  rw [qW_call]
  simp [qcall]
theorem qW_cs3_0 {d : Nat} {J : Nat → qLo → List qPV → qSg → Prop} {Q : qQ} (is : List qIns) (l : Nat) (lo : qLo) (st : List qPV) (σ : qSg) (v0 v1 v2 : qPV) (n k h c : Nat) : qW d J Q ((.invokestatic n, l, [k, h, 3, 0, c]) :: is) lo (v2 :: v1 :: v0 :: st) σ = (qcs st ≤ 8 ∧ qRcv c [v0, v1, v2] ∧ qBI d k [v0, v1, v2] σ (fun r σ1 => qW d J Q is lo (.inl r :: st) σ1)) := by
  rw [qW_call]
  simp [qcall]
theorem qW_cs3_1 {d : Nat} {J : Nat → qLo → List qPV → qSg → Prop} {Q : qQ} (is : List qIns) (l : Nat) (lo : qLo) (st : List qPV) (σ : qSg) (v0 v1 v2 : qPV) (n k h c : Nat) : qW d J Q ((.invokestatic n, l, [k, h, 3, 1, c]) :: is) lo (v2 :: v1 :: v0 :: st) σ = (qcs st ≤ 8 ∧ qRcv c [v0, v1, v2] ∧ qBL d k [v0, v1, v2] σ (fun r σ1 => qW d J Q is lo (.inr (.inl r) :: st) σ1)) := by
  rw [qW_call]
  simp [qcall]
theorem qW_cs3_2 {d : Nat} {J : Nat → qLo → List qPV → qSg → Prop} {Q : qQ} (is : List qIns) (l : Nat) (lo : qLo) (st : List qPV) (σ : qSg) (v0 v1 v2 : qPV) (n k h c : Nat) : qW d J Q ((.invokestatic n, l, [k, h, 3, 2, c]) :: is) lo (v2 :: v1 :: v0 :: st) σ = (qcs st ≤ 8 ∧ qRcv c [v0, v1, v2] ∧ qBV d k [v0, v1, v2] σ (fun σ1 => qW d J Q is lo st σ1)) := by
  rw [qW_call]
  simp [qcall]
theorem qW_cs4_0 {d : Nat} {J : Nat → qLo → List qPV → qSg → Prop} {Q : qQ} (is : List qIns) (l : Nat) (lo : qLo) (st : List qPV) (σ : qSg) (v0 v1 v2 v3 : qPV) (n k h c : Nat) : qW d J Q ((.invokestatic n, l, [k, h, 4, 0, c]) :: is) lo (v3 :: v2 :: v1 :: v0 :: st) σ = (qcs st ≤ 8 ∧ qRcv c [v0, v1, v2, v3] ∧ qBI d k [v0, v1, v2, v3] σ (fun r σ1 => qW d J Q is lo (.inl r :: st) σ1)) := by
  rw [qW_call]
  simp [qcall]
theorem qW_cs4_1 {d : Nat} {J : Nat → qLo → List qPV → qSg → Prop} {Q : qQ} (is : List qIns) (l : Nat) (lo : qLo) (st : List qPV) (σ : qSg) (v0 v1 v2 v3 : qPV) (n k h c : Nat) : qW d J Q ((.invokestatic n, l, [k, h, 4, 1, c]) :: is) lo (v3 :: v2 :: v1 :: v0 :: st) σ = (qcs st ≤ 8 ∧ qRcv c [v0, v1, v2, v3] ∧ qBL d k [v0, v1, v2, v3] σ (fun r σ1 => qW d J Q is lo (.inr (.inl r) :: st) σ1)) := by
  rw [qW_call]
  simp [qcall]
theorem qW_cs4_2 {d : Nat} {J : Nat → qLo → List qPV → qSg → Prop} {Q : qQ} (is : List qIns) (l : Nat) (lo : qLo) (st : List qPV) (σ : qSg) (v0 v1 v2 v3 : qPV) (n k h c : Nat) : qW d J Q ((.invokestatic n, l, [k, h, 4, 2, c]) :: is) lo (v3 :: v2 :: v1 :: v0 :: st) σ = (qcs st ≤ 8 ∧ qRcv c [v0, v1, v2, v3] ∧ qBV d k [v0, v1, v2, v3] σ (fun σ1 => qW d J Q is lo st σ1)) := by
  rw [qW_call]
  simp [qcall]
theorem qW_cs5_0 {d : Nat} {J : Nat → qLo → List qPV → qSg → Prop} {Q : qQ} (is : List qIns) (l : Nat) (lo : qLo) (st : List qPV) (σ : qSg) (v0 v1 v2 v3 v4 : qPV) (n k h c : Nat) : qW d J Q ((.invokestatic n, l, [k, h, 5, 0, c]) :: is) lo (v4 :: v3 :: v2 :: v1 :: v0 :: st) σ = (qcs st ≤ 8 ∧ qRcv c [v0, v1, v2, v3, v4] ∧ qBI d k [v0, v1, v2, v3, v4] σ (fun r σ1 => qW d J Q is lo (.inl r :: st) σ1)) := by
  rw [qW_call]
  simp [qcall]
theorem qW_cs5_1 {d : Nat} {J : Nat → qLo → List qPV → qSg → Prop} {Q : qQ} (is : List qIns) (l : Nat) (lo : qLo) (st : List qPV) (σ : qSg) (v0 v1 v2 v3 v4 : qPV) (n k h c : Nat) : qW d J Q ((.invokestatic n, l, [k, h, 5, 1, c]) :: is) lo (v4 :: v3 :: v2 :: v1 :: v0 :: st) σ = (qcs st ≤ 8 ∧ qRcv c [v0, v1, v2, v3, v4] ∧ qBL d k [v0, v1, v2, v3, v4] σ (fun r σ1 => qW d J Q is lo (.inr (.inl r) :: st) σ1)) := by
  rw [qW_call]
  simp [qcall]
theorem qW_cs5_2 {d : Nat} {J : Nat → qLo → List qPV → qSg → Prop} {Q : qQ} (is : List qIns) (l : Nat) (lo : qLo) (st : List qPV) (σ : qSg) (v0 v1 v2 v3 v4 : qPV) (n k h c : Nat) : qW d J Q ((.invokestatic n, l, [k, h, 5, 2, c]) :: is) lo (v4 :: v3 :: v2 :: v1 :: v0 :: st) σ = (qcs st ≤ 8 ∧ qRcv c [v0, v1, v2, v3, v4] ∧ qBV d k [v0, v1, v2, v3, v4] σ (fun σ1 => qW d J Q is lo st σ1)) := by
  rw [qW_call]
  simp [qcall]
theorem qW_cs6_0 {d : Nat} {J : Nat → qLo → List qPV → qSg → Prop} {Q : qQ} (is : List qIns) (l : Nat) (lo : qLo) (st : List qPV) (σ : qSg) (v0 v1 v2 v3 v4 v5 : qPV) (n k h c : Nat) : qW d J Q ((.invokestatic n, l, [k, h, 6, 0, c]) :: is) lo (v5 :: v4 :: v3 :: v2 :: v1 :: v0 :: st) σ = (qcs st ≤ 8 ∧ qRcv c [v0, v1, v2, v3, v4, v5] ∧ qBI d k [v0, v1, v2, v3, v4, v5] σ (fun r σ1 => qW d J Q is lo (.inl r :: st) σ1)) := by
  rw [qW_call]
  simp [qcall]
theorem qW_cs6_1 {d : Nat} {J : Nat → qLo → List qPV → qSg → Prop} {Q : qQ} (is : List qIns) (l : Nat) (lo : qLo) (st : List qPV) (σ : qSg) (v0 v1 v2 v3 v4 v5 : qPV) (n k h c : Nat) : qW d J Q ((.invokestatic n, l, [k, h, 6, 1, c]) :: is) lo (v5 :: v4 :: v3 :: v2 :: v1 :: v0 :: st) σ = (qcs st ≤ 8 ∧ qRcv c [v0, v1, v2, v3, v4, v5] ∧ qBL d k [v0, v1, v2, v3, v4, v5] σ (fun r σ1 => qW d J Q is lo (.inr (.inl r) :: st) σ1)) := by
  rw [qW_call]
  simp [qcall]
theorem qW_cs6_2 {d : Nat} {J : Nat → qLo → List qPV → qSg → Prop} {Q : qQ} (is : List qIns) (l : Nat) (lo : qLo) (st : List qPV) (σ : qSg) (v0 v1 v2 v3 v4 v5 : qPV) (n k h c : Nat) : qW d J Q ((.invokestatic n, l, [k, h, 6, 2, c]) :: is) lo (v5 :: v4 :: v3 :: v2 :: v1 :: v0 :: st) σ = (qcs st ≤ 8 ∧ qRcv c [v0, v1, v2, v3, v4, v5] ∧ qBV d k [v0, v1, v2, v3, v4, v5] σ (fun σ1 => qW d J Q is lo st σ1)) := by
  rw [qW_call]
  simp [qcall]
theorem qW_cv1_0 {d : Nat} {J : Nat → qLo → List qPV → qSg → Prop} {Q : qQ} (is : List qIns) (l : Nat) (lo : qLo) (st : List qPV) (σ : qSg) (v0 : qPV) (n k h c : Nat) : qW d J Q ((.invokevirtual n, l, [k, h, 1, 0, c]) :: is) lo (v0 :: st) σ = (qcs st ≤ 8 ∧ qRcv c [v0] ∧ qBI d k [v0] σ (fun r σ1 => qW d J Q is lo (.inl r :: st) σ1)) := by
  rw [qW_callv]
  simp [qcall]
theorem qW_cv1_1 {d : Nat} {J : Nat → qLo → List qPV → qSg → Prop} {Q : qQ} (is : List qIns) (l : Nat) (lo : qLo) (st : List qPV) (σ : qSg) (v0 : qPV) (n k h c : Nat) : qW d J Q ((.invokevirtual n, l, [k, h, 1, 1, c]) :: is) lo (v0 :: st) σ = (qcs st ≤ 8 ∧ qRcv c [v0] ∧ qBL d k [v0] σ (fun r σ1 => qW d J Q is lo (.inr (.inl r) :: st) σ1)) := by
  rw [qW_callv]
  simp [qcall]
theorem qW_cv1_2 {d : Nat} {J : Nat → qLo → List qPV → qSg → Prop} {Q : qQ} (is : List qIns) (l : Nat) (lo : qLo) (st : List qPV) (σ : qSg) (v0 : qPV) (n k h c : Nat) : qW d J Q ((.invokevirtual n, l, [k, h, 1, 2, c]) :: is) lo (v0 :: st) σ = (qcs st ≤ 8 ∧ qRcv c [v0] ∧ qBV d k [v0] σ (fun σ1 => qW d J Q is lo st σ1)) := by
  rw [qW_callv]
  simp [qcall]
theorem qW_cv2_0 {d : Nat} {J : Nat → qLo → List qPV → qSg → Prop} {Q : qQ} (is : List qIns) (l : Nat) (lo : qLo) (st : List qPV) (σ : qSg) (v0 v1 : qPV) (n k h c : Nat) : qW d J Q ((.invokevirtual n, l, [k, h, 2, 0, c]) :: is) lo (v1 :: v0 :: st) σ = (qcs st ≤ 8 ∧ qRcv c [v0, v1] ∧ qBI d k [v0, v1] σ (fun r σ1 => qW d J Q is lo (.inl r :: st) σ1)) := by
  rw [qW_callv]
  simp [qcall]
theorem qW_cv2_1 {d : Nat} {J : Nat → qLo → List qPV → qSg → Prop} {Q : qQ} (is : List qIns) (l : Nat) (lo : qLo) (st : List qPV) (σ : qSg) (v0 v1 : qPV) (n k h c : Nat) : qW d J Q ((.invokevirtual n, l, [k, h, 2, 1, c]) :: is) lo (v1 :: v0 :: st) σ = (qcs st ≤ 8 ∧ qRcv c [v0, v1] ∧ qBL d k [v0, v1] σ (fun r σ1 => qW d J Q is lo (.inr (.inl r) :: st) σ1)) := by
  rw [qW_callv]
  simp [qcall]
theorem qW_cv2_2 {d : Nat} {J : Nat → qLo → List qPV → qSg → Prop} {Q : qQ} (is : List qIns) (l : Nat) (lo : qLo) (st : List qPV) (σ : qSg) (v0 v1 : qPV) (n k h c : Nat) : qW d J Q ((.invokevirtual n, l, [k, h, 2, 2, c]) :: is) lo (v1 :: v0 :: st) σ = (qcs st ≤ 8 ∧ qRcv c [v0, v1] ∧ qBV d k [v0, v1] σ (fun σ1 => qW d J Q is lo st σ1)) := by
  rw [qW_callv]
  simp [qcall]
theorem qW_cv3_0 {d : Nat} {J : Nat → qLo → List qPV → qSg → Prop} {Q : qQ} (is : List qIns) (l : Nat) (lo : qLo) (st : List qPV) (σ : qSg) (v0 v1 v2 : qPV) (n k h c : Nat) : qW d J Q ((.invokevirtual n, l, [k, h, 3, 0, c]) :: is) lo (v2 :: v1 :: v0 :: st) σ = (qcs st ≤ 8 ∧ qRcv c [v0, v1, v2] ∧ qBI d k [v0, v1, v2] σ (fun r σ1 => qW d J Q is lo (.inl r :: st) σ1)) := by
  rw [qW_callv]
  simp [qcall]
theorem qW_cv3_1 {d : Nat} {J : Nat → qLo → List qPV → qSg → Prop} {Q : qQ} (is : List qIns) (l : Nat) (lo : qLo) (st : List qPV) (σ : qSg) (v0 v1 v2 : qPV) (n k h c : Nat) : qW d J Q ((.invokevirtual n, l, [k, h, 3, 1, c]) :: is) lo (v2 :: v1 :: v0 :: st) σ = (qcs st ≤ 8 ∧ qRcv c [v0, v1, v2] ∧ qBL d k [v0, v1, v2] σ (fun r σ1 => qW d J Q is lo (.inr (.inl r) :: st) σ1)) := by
  rw [qW_callv]
  simp [qcall]
theorem qW_cv3_2 {d : Nat} {J : Nat → qLo → List qPV → qSg → Prop} {Q : qQ} (is : List qIns) (l : Nat) (lo : qLo) (st : List qPV) (σ : qSg) (v0 v1 v2 : qPV) (n k h c : Nat) : qW d J Q ((.invokevirtual n, l, [k, h, 3, 2, c]) :: is) lo (v2 :: v1 :: v0 :: st) σ = (qcs st ≤ 8 ∧ qRcv c [v0, v1, v2] ∧ qBV d k [v0, v1, v2] σ (fun σ1 => qW d J Q is lo st σ1)) := by
  rw [qW_callv]
  simp [qcall]
theorem qW_cv4_0 {d : Nat} {J : Nat → qLo → List qPV → qSg → Prop} {Q : qQ} (is : List qIns) (l : Nat) (lo : qLo) (st : List qPV) (σ : qSg) (v0 v1 v2 v3 : qPV) (n k h c : Nat) : qW d J Q ((.invokevirtual n, l, [k, h, 4, 0, c]) :: is) lo (v3 :: v2 :: v1 :: v0 :: st) σ = (qcs st ≤ 8 ∧ qRcv c [v0, v1, v2, v3] ∧ qBI d k [v0, v1, v2, v3] σ (fun r σ1 => qW d J Q is lo (.inl r :: st) σ1)) := by
  rw [qW_callv]
  simp [qcall]
theorem qW_cv4_1 {d : Nat} {J : Nat → qLo → List qPV → qSg → Prop} {Q : qQ} (is : List qIns) (l : Nat) (lo : qLo) (st : List qPV) (σ : qSg) (v0 v1 v2 v3 : qPV) (n k h c : Nat) : qW d J Q ((.invokevirtual n, l, [k, h, 4, 1, c]) :: is) lo (v3 :: v2 :: v1 :: v0 :: st) σ = (qcs st ≤ 8 ∧ qRcv c [v0, v1, v2, v3] ∧ qBL d k [v0, v1, v2, v3] σ (fun r σ1 => qW d J Q is lo (.inr (.inl r) :: st) σ1)) := by
  rw [qW_callv]
  simp [qcall]
theorem qW_cv4_2 {d : Nat} {J : Nat → qLo → List qPV → qSg → Prop} {Q : qQ} (is : List qIns) (l : Nat) (lo : qLo) (st : List qPV) (σ : qSg) (v0 v1 v2 v3 : qPV) (n k h c : Nat) : qW d J Q ((.invokevirtual n, l, [k, h, 4, 2, c]) :: is) lo (v3 :: v2 :: v1 :: v0 :: st) σ = (qcs st ≤ 8 ∧ qRcv c [v0, v1, v2, v3] ∧ qBV d k [v0, v1, v2, v3] σ (fun σ1 => qW d J Q is lo st σ1)) := by
  rw [qW_callv]
  simp [qcall]
theorem qW_cv5_0 {d : Nat} {J : Nat → qLo → List qPV → qSg → Prop} {Q : qQ} (is : List qIns) (l : Nat) (lo : qLo) (st : List qPV) (σ : qSg) (v0 v1 v2 v3 v4 : qPV) (n k h c : Nat) : qW d J Q ((.invokevirtual n, l, [k, h, 5, 0, c]) :: is) lo (v4 :: v3 :: v2 :: v1 :: v0 :: st) σ = (qcs st ≤ 8 ∧ qRcv c [v0, v1, v2, v3, v4] ∧ qBI d k [v0, v1, v2, v3, v4] σ (fun r σ1 => qW d J Q is lo (.inl r :: st) σ1)) := by
  rw [qW_callv]
  simp [qcall]
theorem qW_cv5_1 {d : Nat} {J : Nat → qLo → List qPV → qSg → Prop} {Q : qQ} (is : List qIns) (l : Nat) (lo : qLo) (st : List qPV) (σ : qSg) (v0 v1 v2 v3 v4 : qPV) (n k h c : Nat) : qW d J Q ((.invokevirtual n, l, [k, h, 5, 1, c]) :: is) lo (v4 :: v3 :: v2 :: v1 :: v0 :: st) σ = (qcs st ≤ 8 ∧ qRcv c [v0, v1, v2, v3, v4] ∧ qBL d k [v0, v1, v2, v3, v4] σ (fun r σ1 => qW d J Q is lo (.inr (.inl r) :: st) σ1)) := by
  rw [qW_callv]
  simp [qcall]
theorem qW_cv5_2 {d : Nat} {J : Nat → qLo → List qPV → qSg → Prop} {Q : qQ} (is : List qIns) (l : Nat) (lo : qLo) (st : List qPV) (σ : qSg) (v0 v1 v2 v3 v4 : qPV) (n k h c : Nat) : qW d J Q ((.invokevirtual n, l, [k, h, 5, 2, c]) :: is) lo (v4 :: v3 :: v2 :: v1 :: v0 :: st) σ = (qcs st ≤ 8 ∧ qRcv c [v0, v1, v2, v3, v4] ∧ qBV d k [v0, v1, v2, v3, v4] σ (fun σ1 => qW d J Q is lo st σ1)) := by
  rw [qW_callv]
  simp [qcall]
theorem qW_cv6_0 {d : Nat} {J : Nat → qLo → List qPV → qSg → Prop} {Q : qQ} (is : List qIns) (l : Nat) (lo : qLo) (st : List qPV) (σ : qSg) (v0 v1 v2 v3 v4 v5 : qPV) (n k h c : Nat) : qW d J Q ((.invokevirtual n, l, [k, h, 6, 0, c]) :: is) lo (v5 :: v4 :: v3 :: v2 :: v1 :: v0 :: st) σ = (qcs st ≤ 8 ∧ qRcv c [v0, v1, v2, v3, v4, v5] ∧ qBI d k [v0, v1, v2, v3, v4, v5] σ (fun r σ1 => qW d J Q is lo (.inl r :: st) σ1)) := by
  rw [qW_callv]
  simp [qcall]
theorem qW_cv6_1 {d : Nat} {J : Nat → qLo → List qPV → qSg → Prop} {Q : qQ} (is : List qIns) (l : Nat) (lo : qLo) (st : List qPV) (σ : qSg) (v0 v1 v2 v3 v4 v5 : qPV) (n k h c : Nat) : qW d J Q ((.invokevirtual n, l, [k, h, 6, 1, c]) :: is) lo (v5 :: v4 :: v3 :: v2 :: v1 :: v0 :: st) σ = (qcs st ≤ 8 ∧ qRcv c [v0, v1, v2, v3, v4, v5] ∧ qBL d k [v0, v1, v2, v3, v4, v5] σ (fun r σ1 => qW d J Q is lo (.inr (.inl r) :: st) σ1)) := by
  rw [qW_callv]
  simp [qcall]
theorem qW_cv6_2 {d : Nat} {J : Nat → qLo → List qPV → qSg → Prop} {Q : qQ} (is : List qIns) (l : Nat) (lo : qLo) (st : List qPV) (σ : qSg) (v0 v1 v2 v3 v4 v5 : qPV) (n k h c : Nat) : qW d J Q ((.invokevirtual n, l, [k, h, 6, 2, c]) :: is) lo (v5 :: v4 :: v3 :: v2 :: v1 :: v0 :: st) σ = (qcs st ≤ 8 ∧ qRcv c [v0, v1, v2, v3, v4, v5] ∧ qBV d k [v0, v1, v2, v3, v4, v5] σ (fun σ1 => qW d J Q is lo st σ1)) := by
  rw [qW_callv]
  simp [qcall]
theorem qW_mmax {d : Nat} {J : Nat → qLo → List qPV → qSg → Prop} {Q : qQ} (is : List qIns) (l : Nat) (lo : qLo) (st : List qPV) (σ : qSg) (n h : Nat) (y x : Int32) : qW d J Q ((.invokestatic n, l, [h, 0]) :: is) lo (.inl y :: .inl x :: st) σ = (qcs st ≤ 8 ∧ 0 < d ∧ qW d J Q is lo (.inl (qmax x y) :: st) σ) := by
  rw [qW_math]
  simp [qmath]
theorem qW_mmin {d : Nat} {J : Nat → qLo → List qPV → qSg → Prop} {Q : qQ} (is : List qIns) (l : Nat) (lo : qLo) (st : List qPV) (σ : qSg) (n h : Nat) (y x : Int32) : qW d J Q ((.invokestatic n, l, [h, 1]) :: is) lo (.inl y :: .inl x :: st) σ = (qcs st ≤ 8 ∧ 0 < d ∧ qW d J Q is lo (.inl (qmin x y) :: st) σ) := by
  rw [qW_math]
  simp [qmath]
theorem qW_mabs {d : Nat} {J : Nat → qLo → List qPV → qSg → Prop} {Q : qQ} (is : List qIns) (l : Nat) (lo : qLo) (st : List qPV) (σ : qSg) (n h : Nat) (x : Int32) : qW d J Q ((.invokestatic n, l, [h, 2]) :: is) lo (.inl x :: st) σ = (qcs st ≤ 8 ∧ 0 < d ∧ qW d J Q is lo (.inl (qabs x) :: st) σ) := by
  rw [qW_math]
  simp [qmath]
theorem qW_iret0 {d : Nat} {J : Nat → qLo → List qPV → qSg → Prop} {Q : qQ} (is : List qIns) (l : Nat) (lo : qLo) (σ : qSg) (x : Int32) : qW d J Q ((.ireturn, l, [0]) :: is) lo [.inl x] σ = (qrI Q x σ) := by rw [qW_iret]; simp
theorem qW_iret1 {d : Nat} {J : Nat → qLo → List qPV → qSg → Prop} {Q : qQ} (is : List qIns) (l : Nat) (lo : qLo) (σ : qSg) (x : Int32) : qW d J Q ((.ireturn, l, [1]) :: is) lo [.inl x] σ = ((x = nI 0 ∨ x = nI 1) ∧ qrI Q x σ) := by rw [qW_iret]; simp
theorem qW_putf0 {d : Nat} {J : Nat → qLo → List qPV → qSg → Prop} {Q : qQ} (is : List qIns) (l : Nat) (lo : qLo) (st : List qPV) (σ : qSg) (n c k h a : Nat) (x : Int32) : qW d J Q ((.putfield n, l, [c, k, h, 0]) :: is) lo (.inl x :: .inr (.inr (some a)) :: st) σ = ((qKd a).1 = 10 + c ∧ qW d J Q is lo st (qwi σ a k x)) := by rw [qW_putfI]; simp
theorem qW_putf3 {d : Nat} {J : Nat → qLo → List qPV → qSg → Prop} {Q : qQ} (is : List qIns) (l : Nat) (lo : qLo) (st : List qPV) (σ : qSg) (n c k h a : Nat) (x : Int32) : qW d J Q ((.putfield n, l, [c, k, h, 3]) :: is) lo (.inl x :: .inr (.inr (some a)) :: st) σ = ((x = nI 0 ∨ x = nI 1) ∧ (qKd a).1 = 10 + c ∧ qW d J Q is lo st (qwi σ a k x)) := by rw [qW_putfI]; simp
theorem qW_putf1 {d : Nat} {J : Nat → qLo → List qPV → qSg → Prop} {Q : qQ} (is : List qIns) (l : Nat) (lo : qLo) (st : List qPV) (σ : qSg) (n c k h a : Nat) (x : Int64) : qW d J Q ((.putfield n, l, [c, k, h, 1]) :: is) lo (.inr (.inl x) :: .inr (.inr (some a)) :: st) σ = ((qKd a).1 = 10 + c ∧ qW d J Q is lo st (qwl σ a k x)) := by rw [qW_putfL]; simp
