/-! the law: the world behind both constructors, in the numbers of the cells -/
def kcf (j : Nat) : Int32 := if j = 0 then nI 4 else if j = 1 then nI 3 else if j = 2 then nI 4 else nI 0
def kS1 (f6 f g : Nat → Int32) (a : Nat) : Nat → Int32 :=
  if a = 1 then kcf else if a = 13 then kcf else if a = 26 then kcf else if a = 54 then kcf else if a = 85 then kcf else if a = 103 then kcf else if a = 121 then kcf
  else if a = 25 then (fun j => if j = 3 then iI (-1) else nI 0) else if a = 47 then f6
  else if a = 50 then (fun j => if j = 7 then iI (-1) else if j = 11 then iI (-1) else if j = 12 then iI (-1) else nI 0)
  else if a = 139 then (fun j => if j = 16 then iI (-1) else if j = 17 then iI (-1) else nI 0)
  else if a = 140 then f else if a = 143 then g else fun _ => 0
def kS2 (a : Nat) : Nat → Int64 :=
  if a = 0 then (fun j => if j = 19 then lN 1 else lN 0) else if a = 139 then (fun j => if j = 4 then lN 1 else lN 0) else if a = 52 then (kld 110).2 else fun _ => 0
def kS (f6 f g : Nat → Int32) : qSg := (kS1 f6 f g, kS2)
def kW (E : qE) (q q' : Nat) (a : Nat → Nat) (u : Nat → Nat → Nat) (a' : Nat → Nat) (f6 f g : Nat → Int32) : va_W := kL11 E q a u f6 ++ kL12 E q' a' f g
def kad (w : va_W) (o : Nat → Nat) (k : Nat) : Nat := if k < 158 then ((w[k]?).map Prod.fst).getD 0 else o k
def kE' (E : qE) (w : va_W) : qE := (E.1, kad w E.2.1, E.2.2.1, E.2.2.2)
theorem kup (x y z : Nat) : (va_up (va_up (va_up (fun _ => none) 0 (some x)) 1 (some y)) 2 (some z) : Nat → Option Nat) = fun j => if j = 2 then some z else if j = 1 then some y else if j = 0 then some x else none := rfl
theorem kr83 (ad : Nat → Nat) : (fun j => (qRf 83 j).map ad) = va_up (va_up (va_up (fun _ => none) 0 (some (ad 85))) 1 (some (ad 103))) 2 (some (ad 121)) := by
  funext j
  match j with
  | 0 => rfl
  | 1 => rfl
  | 2 => rfl
  | n + 3 => rfl
theorem kr84 (ad : Nat → Nat) : (fun j => (qRf 84 j).map ad) = va_up (va_up (va_up (fun _ => none) 0 (some (ad 97))) 1 (some (ad 115))) 2 (some (ad 133)) := by
  funext j
  match j with
  | 0 => rfl
  | 1 => rfl
  | 2 => rfl
  | n + 3 => rfl
set_option maxRecDepth 100000 in
set_option maxHeartbeats 4000000 in
theorem kq0 (E : qE) (q q' : Nat) (a : Nat → Nat) (u : Nat → Nat → Nat) (a' : Nat → Nat) (f6 f g : Nat → Int32) : ((kW E q q' a u a' f6 f g).drop 0).take 13 = (List.range' 0 13).map (fun k => ((kE' E (kW E q q' a u a' f6 f g)).2.1 k, qent (kE' E (kW E q q' a u a' f6 f g)) (kS f6 f g) k)) := by
  rfl
set_option maxRecDepth 100000 in
set_option maxHeartbeats 4000000 in
theorem kq1 (E : qE) (q q' : Nat) (a : Nat → Nat) (u : Nat → Nat → Nat) (a' : Nat → Nat) (f6 f g : Nat → Int32) : ((kW E q q' a u a' f6 f g).drop 13).take 13 = (List.range' 13 13).map (fun k => ((kE' E (kW E q q' a u a' f6 f g)).2.1 k, qent (kE' E (kW E q q' a u a' f6 f g)) (kS f6 f g) k)) := by
  rfl
set_option maxRecDepth 100000 in
set_option maxHeartbeats 4000000 in
theorem kq2 (E : qE) (q q' : Nat) (a : Nat → Nat) (u : Nat → Nat → Nat) (a' : Nat → Nat) (f6 f g : Nat → Int32) : ((kW E q q' a u a' f6 f g).drop 26).take 14 = (List.range' 26 14).map (fun k => ((kE' E (kW E q q' a u a' f6 f g)).2.1 k, qent (kE' E (kW E q q' a u a' f6 f g)) (kS f6 f g) k)) := by
  rfl
set_option maxRecDepth 100000 in
set_option maxHeartbeats 4000000 in
theorem kq3 (E : qE) (q q' : Nat) (a : Nat → Nat) (u : Nat → Nat → Nat) (a' : Nat → Nat) (f6 f g : Nat → Int32) : ((kW E q q' a u a' f6 f g).drop 40).take 14 = (List.range' 40 14).map (fun k => ((kE' E (kW E q q' a u a' f6 f g)).2.1 k, qent (kE' E (kW E q q' a u a' f6 f g)) (kS f6 f g) k)) := by
  rfl
set_option maxRecDepth 100000 in
set_option maxHeartbeats 4000000 in
theorem kq4 (E : qE) (q q' : Nat) (a : Nat → Nat) (u : Nat → Nat → Nat) (a' : Nat → Nat) (f6 f g : Nat → Int32) : ((kW E q q' a u a' f6 f g).drop 54).take 13 = (List.range' 54 13).map (fun k => ((kE' E (kW E q q' a u a' f6 f g)).2.1 k, qent (kE' E (kW E q q' a u a' f6 f g)) (kS f6 f g) k)) := by
  rfl
set_option maxRecDepth 100000 in
set_option maxHeartbeats 4000000 in
theorem kq5 (E : qE) (q q' : Nat) (a : Nat → Nat) (u : Nat → Nat → Nat) (a' : Nat → Nat) (f6 f g : Nat → Int32) : ((kW E q q' a u a' f6 f g).drop 67).take 16 = (List.range' 67 16).map (fun k => ((kE' E (kW E q q' a u a' f6 f g)).2.1 k, qent (kE' E (kW E q q' a u a' f6 f g)) (kS f6 f g) k)) := by
  rfl
set_option maxRecDepth 100000 in
set_option maxHeartbeats 4000000 in
theorem kq6 (E : qE) (q q' : Nat) (a : Nat → Nat) (u : Nat → Nat → Nat) (a' : Nat → Nat) (f6 f g : Nat → Int32) : ((kW E q q' a u a' f6 f g).drop 83).take 2 = (List.range' 83 2).map (fun k => ((kE' E (kW E q q' a u a' f6 f g)).2.1 k, qent (kE' E (kW E q q' a u a' f6 f g)) (kS f6 f g) k)) := by
  have e1 := kr83 (kE' E (kW E q q' a u a' f6 f g)).2.1
  have e2 := kr84 (kE' E (kW E q q' a u a' f6 f g)).2.1
  show _ = ([((kE' E (kW E q q' a u a' f6 f g)).2.1 83, Sum.inl (E.2.2.1 4, 3, .inr (.inr (.inr (.inr fun j => (qRf 83 j).map (kE' E (kW E q q' a u a' f6 f g)).2.1))))), ((kE' E (kW E q q' a u a' f6 f g)).2.1 84, Sum.inl (E.2.2.1 5, 3, .inr (.inr (.inr (.inr fun j => (qRf 84 j).map (kE' E (kW E q q' a u a' f6 f g)).2.1)))))] : va_W)
  rw [e1, e2]
  rfl
set_option maxRecDepth 100000 in
set_option maxHeartbeats 4000000 in
theorem kq7 (E : qE) (q q' : Nat) (a : Nat → Nat) (u : Nat → Nat → Nat) (a' : Nat → Nat) (f6 f g : Nat → Int32) : ((kW E q q' a u a' f6 f g).drop 85).take 18 = (List.range' 85 18).map (fun k => ((kE' E (kW E q q' a u a' f6 f g)).2.1 k, qent (kE' E (kW E q q' a u a' f6 f g)) (kS f6 f g) k)) := by
  rfl
set_option maxRecDepth 100000 in
set_option maxHeartbeats 4000000 in
theorem kq8 (E : qE) (q q' : Nat) (a : Nat → Nat) (u : Nat → Nat → Nat) (a' : Nat → Nat) (f6 f g : Nat → Int32) : ((kW E q q' a u a' f6 f g).drop 103).take 18 = (List.range' 103 18).map (fun k => ((kE' E (kW E q q' a u a' f6 f g)).2.1 k, qent (kE' E (kW E q q' a u a' f6 f g)) (kS f6 f g) k)) := by
  rfl
set_option maxRecDepth 100000 in
set_option maxHeartbeats 4000000 in
theorem kq9 (E : qE) (q q' : Nat) (a : Nat → Nat) (u : Nat → Nat → Nat) (a' : Nat → Nat) (f6 f g : Nat → Int32) : ((kW E q q' a u a' f6 f g).drop 121).take 18 = (List.range' 121 18).map (fun k => ((kE' E (kW E q q' a u a' f6 f g)).2.1 k, qent (kE' E (kW E q q' a u a' f6 f g)) (kS f6 f g) k)) := by
  rfl
set_option maxRecDepth 100000 in
set_option maxHeartbeats 4000000 in
theorem kq10 (E : qE) (q q' : Nat) (a : Nat → Nat) (u : Nat → Nat → Nat) (a' : Nat → Nat) (f6 f g : Nat → Int32) : ((kW E q q' a u a' f6 f g).drop 139).take 19 = (List.range' 139 19).map (fun k => ((kE' E (kW E q q' a u a' f6 f g)).2.1 k, qent (kE' E (kW E q q' a u a' f6 f g)) (kS f6 f g) k)) := by
  rfl
theorem ktd {α : Type} (l : List α) (n m : Nat) : l.drop n = (l.drop n).take m ++ l.drop (n + m) := by
  rw [← List.drop_drop]
  exact (List.take_append_drop m _).symm
theorem kqAll (E : qE) (q q' : Nat) (a : Nat → Nat) (u : Nat → Nat → Nat) (a' : Nat → Nat) (f6 f g : Nat → Int32) : (kW E q q' a u a' f6 f g) = qws (kE' E (kW E q q' a u a' f6 f g)) (kS f6 f g) := by
  have h0 : (kW E q q' a u a' f6 f g) = (kW E q q' a u a' f6 f g).drop 0 := rfl
  have hr : List.range qKL.length = List.range' 0 13 ++ (List.range' 13 13 ++ (List.range' 26 14 ++ (List.range' 40 14 ++ (List.range' 54 13 ++ (List.range' 67 16 ++ (List.range' 83 2 ++ (List.range' 85 18 ++ (List.range' 103 18 ++ (List.range' 121 18 ++ (List.range' 139 19)))))))))) := by decide +kernel
  unfold qws
  rw [hr]
  simp only [List.map_append]
  rw [← kq0, ← kq1, ← kq2, ← kq3, ← kq4, ← kq5, ← kq6, ← kq7, ← kq8, ← kq9, ← kq10]
  have hl : (kW E q q' a u a' f6 f g).drop 158 = [] := rfl
  conv => lhs; rw [h0, ktd _ 0 13, ktd _ 13 13, ktd _ 26 14, ktd _ 40 14, ktd _ 54 13, ktd _ 67 16, ktd _ 83 2, ktd _ 85 18, ktd _ 103 18, ktd _ 121 18, ktd _ 139 19, hl]
  rw [List.append_nil]
