/-! what each call gives, abstractly: answer and state -/
def yStatus (A : zA) : Int32 × zA := (nI (aS A), A)
def yTop (A : zA) : Int64 × zA := (lN (aF A).1, A)
def yBottom (A : zA) : Int64 × zA := (lN (aF A).2, A)
def yTray (A : zA) (t s n : Int32) : Int32 × zA := if ztok t s n = true then yT (sT A (zTlay (aT A) t.toInt.toNat s.toInt.toNat n.toInt.toNat)) else yF A 1
def yWrite (A : zA) (t p : Int32) (v : Int64) : Int32 × zA := if zwp (aT A) t p = 0 then yT (sT A (zTput (aT A) t.toInt.toNat p.toInt.toNat v)) else yF A (zwp (aT A) t p)
def yRead (A : zA) (t p : Int32) : Int64 × zA := (if zwp (aT A) t p = 0 then (aT A).2.2 t.toInt.toNat p.toInt.toNat else -(lN 1), sS A (zwp (aT A) t p))
def zTpour (T : zT) (f p t a m : Nat) : zT := (T.1, T.2.1, fun b j => if b = t ∧ a ≤ j ∧ j < a + m then T.2.2 f (p + (j - a)) else T.2.2 b j)
/-- why a pour is wrong -/
def zpw (T : zT) (f p t a m : Int32) : Nat :=
  if (zrg f 4 && zrg t 4 && decide (0 ≤ p.toInt) && decide (0 ≤ a.toInt) && decide (0 ≤ m.toInt)) = false then 1
  else match T.2.1 f.toInt.toNat, T.2.1 t.toInt.toNat with
    | some x, some y => if T.1 f.toInt.toNat ≠ T.1 t.toInt.toNat then 8 else if p.toInt + m.toInt ≤ x ∧ a.toInt + m.toInt ≤ y then 0 else 3
    | _, _ => 2
def yPour (A : zA) (f p t a m : Int32) : Int32 × zA := if zpw (aT A) f p t a m = 0 then yT (sT A (zTpour (aT A) f.toInt.toNat p.toInt.toNat t.toInt.toNat a.toInt.toNat m.toInt.toNat)) else yF A (zpw (aT A) f p t a m)
def yFeed (A : zA) (a b c d e : Int32) : Int32 × zA := if 900 < (aP A).1 + 20 then (iI (-1), A) else (nI ((aP A).1 + 20), sP A (zfeed (aP A) a b c d e))
def yFault (A : zA) (w : Int32) : Int32 × zA := (if w = nI 0 then (aE A).1 else if w = nI 1 then (aE A).2 else iI (-1), A)
def ztellv (C : zC) (w : Nat) : Nat := if w = 6 then zups C else if w = 7 then zopens C else if w = 8 then zsum (C 0 1) (fun q => if zOpen C q then C 8 q else 0) else C 0 w
def yTold (A : zA) (w : Int32) : Int32 × zA := if zih w 0 8 = false then yNo A 1 else yOk A (nI (ztellv (aC A) w.toInt.toNat))
def zboyv (C : zC) (b w : Nat) : Nat := if w = 4 then (if zof C b = 0 then 1 else 0) else if w = 5 then zpop (zof C b) else if w = 6 then C 5 b else C (1 + w) b
def yBoy (A : zA) (b w : Int32) : Int32 × zA := if (zrg b (aC A 0 0) && zih w 0 6) = false then yNo A 1 else yOk A (nI (zboyv (aC A) b.toInt.toNat w.toInt.toNat))
def yQuarrel (A : zA) (q w : Int32) : Int32 × zA := if (zrg q (aC A 0 1) && zih w 0 3) = false then yNo A 1 else yOk A (nI (aC A (6 + w.toInt.toNat) q.toInt.toNat))
def yMinute (A : zA) (n : Int32) : Int32 × zA := if zih n 1 240 = false then yNo A 1 else if 9999 < aC A 0 5 + n.toInt.toNat then yNo A 4 else yOk (sC A (zit n.toInt.toNat (aC A))) (nI (zmins n.toInt.toNat (aC A)).2)
def yDawn (A : zA) : Int32 × zA := yOk (sC A (zdawn (aC A)).1) (nI (zdawn (aC A)).2)
def yBoot (A : zA) (a b g : Int32) : Int32 × zA :=
  if (zrg a (aC A 0 0) && zrg b (aC A 0 0) && decide (a ≠ b) && zih g 0 99) = false then yNo A 1
  else if aC A 0 1 = 10 then yNo A 4 else yOk (sC A (zboot (aC A) a.toInt.toNat b.toInt.toNat g.toInt.toNat)) (nI (aC A 0 1))
def yForgive (A : zA) (b : Int32) : Int32 × zA :=
  if zrg b (aC A 0 0) = false then yNo A 1 else if zof (aC A) b.toInt.toNat = 0 then yNo A 7 else yOk (sC A (zgive (aC A) b.toInt.toNat)) (nI (zpop (zof (aC A) b.toInt.toNat)))
def yPitch (A : zA) (b c : Int32) : Int32 × zA :=
  if (zrg b (aC A 0 0) && zrg c (aC A 0 2 * aC A 0 3)) = false then yNo A 1
  else if aC A 1 b.toInt.toNat = c.toInt.toNat then yNo A 7 else yOk (sC A (zu (aC A) 1 b.toInt.toNat c.toInt.toNat)) (nI (aC A 1 b.toInt.toNat))
def yTeach (A : zA) (b w m : Int32) : Int32 × zA :=
  if (zrg b (aC A 0 0) && zih w 1 3) = false then yF A 1
  else if zih m (if w.toInt.toNat = 1 then 1 else 0) (if w.toInt.toNat = 1 then 30 else 9) = false then yF A 1
  else yT (sC A (zu (aC A) (1 + w.toInt.toNat) b.toInt.toNat m.toInt.toNat))
def yStir (A : zA) (q g : Int32) : Int32 × zA :=
  if (zrg q (aC A 0 1) && zih g 0 99) = false then yNo A 1 else if zOpen (aC A) q.toInt.toNat = false then yNo A 7
  else yOk (sC A (zu (aC A) 8 q.toInt.toNat g.toInt.toNat)) (nI (aC A 8 q.toInt.toNat))
def yCome (A : zA) (c p : Int32) : Int32 × zA :=
  if (zrg c (aC A 0 2 * aC A 0 3) && zih p 1 30) = false then yNo A 1 else if aC A 0 0 = 8 then yNo A 4
  else yOk (sK A (zcome (aC A) c.toInt.toNat p.toInt.toNat 1 2, fun b => if b = aC A 0 0 then [] else A.1.2.1 b, A.1.2.2)) (nI (aC A 0 0))
def yRule (A : zA) (o : Int32) : Int32 × zA := if zih o 0 16 = false then yF A 1 else yT (sC A (zu (aC A) 0 4 o.toInt.toNat))
def yFar (A : zA) (a b : Int32) : Int32 × zA := if (zrg a (aC A 0 0) && zrg b (aC A 0 0)) = false then yNo A 1 else yOk A (nI (zfar (aC A) a.toInt.toNat b.toInt.toNat))
def yHears (A : zA) (b : Int32) : Int32 × zA := if zrg b (aC A 0 0) = false then yNo A 1 else yOk A (nI (znear (aC A) b.toInt.toNat &&& zups (aC A)))
def yNear (A : zA) (b : Int32) : Int32 × zA := if zrg b (aC A 0 0) = false then yNo A 1 else yOk A (nI (znear (aC A) b.toInt.toNat))
def yDue (A : zA) (b q : Int32) : Int32 × zA :=
  if (zrg b (aC A 0 0) && zrg q (aC A 0 1)) = false then yNo A 1 else if zin (aC A) q.toInt.toNat b.toInt.toNat = false then yNo A 6
  else if zOpen (aC A) q.toInt.toNat = false then yNo A 7 else yOk A (iI (zdue (aC A) b.toInt.toNat q.toInt.toNat (zups (aC A))))
def yUpIn (A : zA) (b : Int32) : Int32 × zA := if zrg b (aC A 0 0) = false then yNo A 1 else yOk A (nI (zupb (aC A) b.toInt.toNat))
def yUpBy (A : zA) (n : Int32) : Int32 × zA := if zih n 0 200 = false then yNo A 1 else yOk A (nI (zups (zit n.toInt.toNat (aC A))))
def yBreakfast (A : zA) : Int32 × zA := yOk A (nI (zbrk (aC A)))
def yOverIn (A : zA) (q : Int32) : Int32 × zA := if zrg q (aC A 0 1) = false then yNo A 1 else yOk A (nI (zover (aC A) q.toInt.toNat))
def yYielder (A : zA) (q : Int32) : Int32 × zA := if zrg q (aC A 0 1) = false then yNo A 1 else yOk A (nI (zit (zover (aC A) q.toInt.toNat) (aC A) 9 q.toInt.toNat))
/-- the first one of a set -/
def zlow (s : Nat) : Nat := zlst (fun k => s.testBit k) 31 0
/-- the first minute in which somebody yields -/
def zfst (C : zC) : Nat := zlst (fun n => decide ((zmin (zit n C)).2.2 ≠ 0)) 300 0
def yReveille (A : zA) : Int32 × zA := if zopens (aC A) = 0 then yNo A 6 else yOk A (nI (zlow (zmin (zit (zfst (aC A)) (aC A))).2.2))
/-- the first place of the greatest -/
def zlate (U : Nat → Nat) : Nat → Nat
  | 0 => 0
  | n + 1 => if U (zlate U n) < U n then n else zlate U n
def yLast (A : zA) : Int32 × zA := if aC A 0 0 = 0 then yNo A 6 else yOk A (nI (zlate (zupb (aC A)) (aC A 0 0)))
def ySoonest (A : zA) (k : Int32) : Int32 × zA := if zih k 0 4 = false then yNo A 1 else if aC A 0 0 < k.toInt.toNat then yNo A 6 else yOk A (iI (zsoon (aC A) k.toInt.toNat).1)
def ySoonestIn (A : zA) (k : Int32) : Int32 × zA := if zih k 0 4 = false then yNo A 1 else if aC A 0 0 < k.toInt.toNat then yNo A 6 else yOk A (nI (zsoon (aC A) k.toInt.toNat).2)
def yBest (A : zA) (b : Int32) : Int32 × zA := if zrg b (aC A 0 0) = false then yNo A 1 else yOk A (nI (zbest (aC A) b.toInt.toNat).1)
def yBestIn (A : zA) (b : Int32) : Int32 × zA := if zrg b (aC A 0 0) = false then yNo A 1 else yOk A (nI (zbest (aC A) b.toInt.toNat).2)
def yEnding (A : zA) : Int32 × zA := yOk A (nI (zpop (zending (aC A))))
def yEndingSet (A : zA) : Int32 × zA := yOk A (nI (zending (aC A)))
def yApart (A : zA) : Int32 × zA := yOk A (nI (zpop (zapart (aC A))))
def yApartSet (A : zA) : Int32 × zA := yOk A (nI (zapart (aC A)))
def yCircle (A : zA) (b : Int32) : Int32 × zA := if zrg b (aC A 0 0) = false then yNo A 1 else yOk A (nI (zcircle (aC A) b.toInt.toNat))
def yCircles (A : zA) : Int32 × zA := yOk A (nI (zcount (fun b => decide (zlow (zcircle (aC A) b) = b)) (aC A 0 0)))
def zsidef (C : zC) : Nat := zlst (zside C) (2 ^ C 0 0) 0
def ySides (A : zA) : Int32 × zA := if zsidef (aC A) = 2 ^ aC A 0 0 then yNo A 6 else yOk A (nI (zsidef (aC A)))
def zfitA (A : zA) (b t n : Int32) (p : Nat) : Bool := zfit (aC A) (aT A) b.toInt.toNat t.toInt.toNat n.toInt.toNat p
def yFits (A : zA) (b t n : Int32) : Int32 × zA := if zwrong (aC A) (aT A) b t n ≠ 0 then yNo A (zwrong (aC A) (aT A) b t n) else yOk A (nI (zcount (fun i => zfitA A b t n (i + 1)) 30))
/-- the greatest number from 30 down (0: none) -/
def zgrt (p : Nat → Bool) : Nat → Nat
  | 0 => 0
  | n + 1 => if p (n + 1) then n + 1 else zgrt p n
def yFitsAt (A : zA) (b t n w : Int32) : Int32 × zA :=
  if zih w 0 1 = false then yNo A 1 else if zwrong (aC A) (aT A) b t n ≠ 0 then yNo A (zwrong (aC A) (aT A) b t n)
  else if zcount (fun i => zfitA A b t n (i + 1)) 30 = 0 then yNo A 6
  else yOk A (nI (if w.toInt.toNat = 0 then zlst (zfitA A b t n) 30 1 else zgrt (zfitA A b t n) 30))
/-- the first place of the least -/
def zleast (U : Nat → Nat) : Nat → Nat
  | 0 => 0
  | n + 1 => if U n < U (zleast U n) then n else zleast U n
/-- by whom prides are parted: the most that are alike -/
def zalike (A : zA) (b t n : Int32) (o : Nat) : Nat := zmx (zfitA A b t n) (fun p => zupb (zu (aC A) 2 b.toInt.toNat p) o) 30
def yAsk (A : zA) (b t n : Int32) : Int32 × zA :=
  if zwrong (aC A) (aT A) b t n ≠ 0 then yNo A (zwrong (aC A) (aT A) b t n) else if zcount (fun i => zfitA A b t n (i + 1)) 30 < 2 then yNo A 6
  else yOk A (nI (zleast (zalike A b t n) (aC A 0 0)))
def yRests (A : zA) (q n : Int32) : Int32 × zA := if (zrg q (aC A 0 1) && zih n 0 20) = false then yNo A 1 else yOk A (nI (zcount (zrp (aC A 8 q.toInt.toNat) n.toInt.toNat) ((n.toInt.toNat + 1) * (n.toInt.toNat + 1))))
def yRestAt (A : zA) (q n k w : Int32) : Int32 × zA :=
  if (zrg q (aC A 0 1) && zih n 0 20 && decide (0 ≤ k.toInt) && zih w 0 1) = false then yNo A 1
  else match zseek (zrp (aC A 8 q.toInt.toNat) n.toInt.toNat) ((n.toInt.toNat + 1) * (n.toInt.toNat + 1)) 0 k.toInt.toNat with
    | none => yNo A 6
    | some i => yOk A (nI (if w.toInt.toNat = 0 then i / (n.toInt.toNat + 1) else i % (n.toInt.toNat + 1)))
def yGame (A : zA) (n : Int32) : Int32 × zA := if zih n 0 3 = false then yNo A 1 else yOk A (nI (zplay n.toInt.toNat 0 (aC A)))
def yMoveOf (A : zA) (n : Int32) : Int32 × zA :=
  if zih n 1 3 = false then yNo A 1
  else match zmove (n.toInt.toNat - 1) 0 (aC A) with
    | none => yNo A 6
    | some s => if s.1 = aC A 0 1 then yNo A 6 else yOk A (nI s.1)
def zfrac (n d : Nat) : Nat × Nat := (n / Nat.gcd n d, d / Nat.gcd n d)
def yNight (A : zA) (k : Int32) : Int32 × zA := if zih k 0 10 = false then yF A 1 else yT (sF A (zfrac (znsum (aC A 0 4) (zcount (zOpen (aC A)) (aC A 0 1)) (k.toInt.toNat + 1)) (16 ^ zcount (zOpen (aC A)) (aC A 0 1))))
def yWakes (A : zA) (b : Int32) : Int32 × zA := if zrg b (aC A 0 0) = false then yF A 1 else yT (sF A (zfrac (aC A 0 4 ^ zpop (zof (aC A) b.toInt.toNat)) (16 ^ zpop (zof (aC A) b.toInt.toNat))))
def zTy (C : zC) (T : zT) (t : Nat) : Nat → zT
  | 0 => T
  | b + 1 => zTput (zTy C T t b) t b (nI (C 5 b)).toInt64
def yCopyYields (A : zA) (t : Int32) : Int32 × zA :=
  if zrg t 4 = false then yNo A 1
  else match (aT A).2.1 t.toInt.toNat with
    | none => yNo A 2
    | some n => if n < aC A 0 0 then yNo A 3 else yOk (sT A (zTy (aC A) (aT A) t.toInt.toNat (aC A 0 0))) (nI (aC A 0 0))
def yLive (A : zA) (x : Int32) : Int32 × zA :=
  if zih x 0 9999 = false then yNo A 1
  else match A.1.2.2 with
    | none => yNo A 6
    | some w => yOk (sL (sD (sC A (zfin w.1 w.2 (zst0 (aC A) (aL A) x.toInt.toNat)).1) (true, (zfin w.1 w.2 (zst0 (aC A) (aL A) x.toInt.toNat)).2.2)) (zfin w.1 w.2 (zst0 (aC A) (aL A) x.toInt.toNat)).2.1) (nI ((zfin w.1 w.2 (zst0 (aC A) (aL A) x.toInt.toNat)).2.2 5))
def yLived (A : zA) (w : Int32) : Int32 × zA := if zih w 0 4 = false then yNo A 1 else if (aD A).1 = true then yOk A (nI ((aD A).2 w.toInt.toNat)) else yNo A 6
def yMean (A : zA) (x m : Int32) : Int32 × zA :=
  if (zih x 0 9999 && zih m 1 20 && decide (x.toInt + m.toInt ≤ 10000)) = false then yF A 1
  else match A.1.2.2 with
    | none => yF A 6
    | some w => yT (sF (sL A (zmean w.1 w.2 (aC A) (aL A) x.toInt.toNat m.toInt.toNat).2) (zfrac (zmean w.1 w.2 (aC A) (aL A) x.toInt.toNat m.toInt.toNat).1 m.toInt.toNat))
def yMark (A : zA) : Int32 × zA := if (aM A).1 = 3 then yNo A 4 else yOk (sM A ((aM A).1 + 1, fun i => if i = (aM A).1 + 1 then A.1 else (aM A).2 i)) (nI ((aM A).1 + 1))
def yUndo (A : zA) : Int32 × zA := if (aM A).1 = 0 then yNo A 6 else yOk (sM (sK A ((aM A).2 (aM A).1)) ((aM A).1 - 1, (aM A).2)) (nI ((aM A).1 - 1))
