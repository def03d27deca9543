/-! ===== the reference's steps as functions of its row ===== -/
def bit (set : Int32) (t : Nat) : Prop := (set >>> (nI t &&& 31)) &&& 1 = 1
def sh1 (s : Nat) : Int32 := (1 : Int32) <<< (nI s &&& 31)
def ff (s : Nat) (set : Int32) (A : Rw) (t : Nat) : Rw := if (set >>> (nI t &&& 31)) &&& 1 = 1 ∧ ¬ t = s then qFeed A s t else A
def qFeeds5 (s : Nat) (set : Int32) (A : Rw) : Rw := ff s set (ff s set (ff s set (ff s set (ff s set A 0) 1) 2) 3) 4
def qFeedsAll (A : Rw) (s : Nat) : Rw := qFeeds5 s ((qMem A s).1 ||| (qMem A s).2.1) A
/-- an entry is done -/
def qDo1 (A : Rw) (s p : Nat) : Rw :=
  let A1 := if A (514 * s + 30 + 4 * p + 1) = 1 then up A (514 * s + 16 + (A (514 * s + 30 + 4 * p + 2)).toNatClampNeg) (A (514 * s + 30 + 4 * p + 3))
    else if A (514 * s + 30 + 4 * p + 1) = 2 then up A (514 * s + 16 + (A (514 * s + 30 + 4 * p + 2)).toNatClampNeg) (A (514 * s + 16 + (A (514 * s + 30 + 4 * p + 2)).toNatClampNeg) + A (514 * s + 30 + 4 * p + 3)) else A
  if A1 (3826 + 4 * p) = 0 then cpF A1 A1 (514 * s + 30 + 4 * p) (3826 + 4 * p) 4 else A1
def dosF (s : Nat) : Nat → Nat → Rw → Rw := fun n p A => match n with
  | 0 => A
  | n + 1 => dosF s n (p + 1) (qDo1 A s p)
def qDoes (A : Rw) (s : Nat) (to : Int32) : Rw :=
  let A1 := dosF s (to.toNatClampNeg - (A (514 * s + 7)).toNatClampNeg) ((A (514 * s + 7)).toNatClampNeg + 1) A
  up A1 (514 * s + 7) (if A1 (514 * s + 7) < to then to else A1 (514 * s + 7))
def majQ (c : Int32 × Int32 × Int32 × Int32) (set : Int32) : Prop := cnt5 c.1 < 2 * cnt5 (set &&& c.1) ∧ (c.2.1 = 0 ∨ cnt5 c.2.1 < 2 * cnt5 (set &&& c.2.1))
/-- the greatest place that can be agreed -/
def qTop (A : Rw) (s : Nat) : Nat → Nat := fun p => match p with
  | 0 => 0
  | p + 1 => if ¬ A (514 * s + 7) < nI (p + 1) then p + 1 else if A (514 * s + 30 + 4 * (p + 1)) = A (514 * s + 1) ∧ (cnt5 (qMem A s).1 < 2 * cnt5 (qHav A s (nI (p + 1)) &&& (qMem A s).1) ∧ ((qMem A s).2.1 = 0 ∨ cnt5 (qMem A s).2.1 < 2 * cnt5 (qHav A s (nI (p + 1)) &&& (qMem A s).2.1))) then p + 1 else qTop A s p
def qAgr1 (A : Rw) (s : Nat) : Rw := qDoes A s (nI (qTop A s (A (514 * s + 4)).toNatClampNeg))
/-- one that isn't a member any more steps down -/
def qFin (A : Rw) (s : Nat) : Rw := if (qMem A s).2.1 = 0 ∧ ¬ A (514 * s + 7) < (qMem A s).2.2.2 ∧ ¬ ((qMem A s).1 >>> (nI s &&& 31)) &&& 1 = 1 then qPlays A s 0 else A
def qAgr0 (A : Rw) (s : Nat) : Rw := qFin (qAgr1 A s) s
/-- whether the leader leaves both sets -/
abbrev leaves (A : Rw) (s : Nat) : Prop := ¬ (qMem A s).2.1 = 0 ∧ ¬ (qAgr1 A s) (514 * s + 7) < (qMem A s).2.2.2 ∧ (qAgr1 A s) (514 * s + 4) < 120
def qJoin (A : Rw) (s : Nat) : Rw := qFeedsAll (qPut (qAgr1 A s) s ((qAgr1 A s) (514 * s + 1)) 4 (qMem A s).2.1 0) s
def qAgr (A : Rw) (s : Nat) : Rw := if leaves A s then qFin (qAgr0 (qJoin A s) s) s else qAgr0 A s
def nx5 (A : Rw) (s : Nat) (v : Int32) : Rw := fun i => if 514 * s + 24 ≤ i ∧ i < 514 * s + 29 then v else if 514 * s + 29 ≤ i ∧ i < 514 * s + 34 then 0 else A i
def qLead1 (A : Rw) (s : Nat) : Rw :=
  let A2 := qReadsNothing (qPlays A s 2) s
  let A3 := up A2 (4309 + (A2 (514 * s + 1)).toNatClampNeg) (A2 (4309 + (A2 (514 * s + 1)).toNatClampNeg) ||| (1 : Int32) <<< (nI s &&& 31))
  let A4 := nx5 A3 s (A3 (514 * s + 4) + 1)
  if A4 (514 * s + 4) < 120 then qPut A4 s (A4 (514 * s + 1)) 0 0 0 else A4
def qLeads (A : Rw) (s : Nat) : Rw := qAgr (qFeedsAll (qLead1 A s) s) s
def as1 (s : Nat) (set kd : Int32) (A : Rw) (t : Nat) : Rw :=
  if (set >>> (nI t &&& 31)) &&& 1 = 1 then qPost A s t (rowS (nI s) (nI t) (if kd = 7 then A (514 * s + 1) + 1 else A (514 * s + 1)) kd (A (514 * s + 4)) (qTermAt A s (A (514 * s + 4))) 0) else A
def qAsks5 (s : Nat) (set kd : Int32) (A : Rw) : Rw := as1 s set kd (as1 s set kd (as1 s set kd (as1 s set kd (as1 s set kd A 0) 1) 2) 3) 4
def qAsksAll (A : Rw) (s : Nat) (kd : Int32) : Rw := qAsks5 s ((qMem A s).1 ||| (qMem A s).2.1) kd A
def qStand1 (A : Rw) (s : Nat) : Rw := up (up (qPlays (up A (514 * s + 1) (A (514 * s + 1) + 1)) s 1) (514 * s + 2) (nI s)) (514 * s + 8) ((1 : Int32) <<< (nI s &&& 31))
abbrev ownMaj (A : Rw) (s : Nat) : Prop := cnt5 (qMem A s).1 < 2 * cnt5 ((1 : Int32) <<< (nI s &&& 31) &&& (qMem A s).1) ∧ ((qMem A s).2.1 = 0 ∨ cnt5 (qMem A s).2.1 < 2 * cnt5 ((1 : Int32) <<< (nI s &&& 31) &&& (qMem A s).2.1))
def qStands (A : Rw) (s : Nat) : Rw := if ownMaj (qStand1 A s) s then qLeads (qAsksAll (qStand1 A s) s 0) s else qAsksAll (qStand1 A s) s 0
def qAsk1 (A : Rw) (s : Nat) : Rw := up (qPlays A s 3) (514 * s + 8) ((1 : Int32) <<< (nI s &&& 31))
def qAsks (A : Rw) (s : Nat) : Rw := if A 4515 = 0 then qStands A s else if ownMaj (qAsk1 A s) s then qStands (qAsksAll (qAsk1 A s) s 7) s else qAsksAll (qAsk1 A s) s 7
/-! a message comes -/
def qOut (A : Rw) (i : Nat) : Rw := up (cpF A A (2570 + 21 * i + 21) (2570 + 21 * i) (21 * ((A 4510).toNatClampNeg - 1 - i))) 4510 (A 4510 - 1)
def rowM (A : Rw) (i : Nat) : Rw := fun k => A (2570 + 21 * i + k)
abbrev isFar (A : Rw) (s : Nat) (l t : Int32) : Prop := qTermAt A s (A (514 * s + 4)) < t ∨ (t = qTermAt A s (A (514 * s + 4)) ∧ ¬ l < A (514 * s + 4))
abbrev gives (A : Rw) (s : Nat) (fr : Int32) (isOf : Prop) (l t : Int32) : Prop := isOf ∧ (A (514 * s + 2) = -1 ∨ A (514 * s + 2) = fr) ∧ (qTermAt A s (A (514 * s + 4)) < t ∨ (t = qTermAt A s (A (514 * s + 4)) ∧ ¬ l < A (514 * s + 4)))
def rowA (A : Rw) (s : Nat) (fr tm kd x y rd : Int32) : Rw := rowS (nI s) fr tm kd x y rd
/-- ASK: what is answered -/
def qAsked (A : Rw) (s f : Nat) (isOf : Prop) [Decidable isOf] (l t : Int32) : Rw :=
  if gives A s (nI f) isOf l t then qPost (up A (514 * s + 2) (nI f)) s f (rowS (nI s) (nI f) (A (514 * s + 1)) 1 1 0 0) else qPost A s f (rowS (nI s) (nI f) (A (514 * s + 1)) 1 0 0 0)
def qVoted (A : Rw) (s f : Nat) : Rw :=
  let A1 := up A (514 * s + 8) (A (514 * s + 8) ||| (1 : Int32) <<< (nI f &&& 31))
  if cnt5 (qMem A1 s).1 < 2 * cnt5 (A1 (514 * s + 8) &&& (qMem A1 s).1) ∧ ((qMem A1 s).2.1 = 0 ∨ cnt5 (qMem A1 s).2.1 < 2 * cnt5 (A1 (514 * s + 8) &&& (qMem A1 s).2.1)) then qLeads A1 s else A1
def qAnsTook (A : Rw) (m8 : Int32) (s f : Nat) (x y : Int32) : Rw := qPost A s f (rowS (nI s) (nI f) (A (514 * s + 1)) 3 x y m8)
def qTk1 (A g : Rw) (s k : Nat) : Rw :=
  let place := (g 4).toNatClampNeg + 1 + k
  if nI place ≤ A (514 * s + 5) then A else
  let A1 := if nI place ≤ A (514 * s + 4) ∧ ¬ A (514 * s + 30 + 4 * place) = g (9 + 4 * k) then up A (514 * s + 4) (nI (place - 1)) else A
  if A1 (514 * s + 4) < nI place then qPut A1 s (g (9 + 4 * k)) (g (9 + 4 * k + 1)) (g (9 + 4 * k + 2)) (g (9 + 4 * k + 3)) else A1
def tksF (g : Rw) (s : Nat) : Nat → Nat → Rw → Rw := fun n k A => match n with
  | 0 => A
  | n + 1 => tksF g s n (k + 1) (qTk1 A g s k)
def qTakes (A g : Rw) (s f : Nat) (isOf : Prop) [Decidable isOf] : Rw :=
  if ¬ isOf then qAnsTook A (g 8) s f 0 (A (514 * s + 4)) else
  let A1 := if A (514 * s + 3) = 2 then A else qPlays A s 0
  if A1 (514 * s + 4) < g 4 then qAnsTook A1 (g 8) s f 0 (A1 (514 * s + 4)) else
  if ¬ g 4 < A1 (514 * s + 5) ∧ ¬ qTermAt A1 s (g 4) = g 5 then qAnsTook A1 (g 8) s f 0 (g 4 - 1) else
  let A2 := tksF g s (g 6).toNatClampNeg 0 A1
  let to := if g 7 < g 4 + g 6 then g 7 else g 4 + g 6
  qAnsTook (qDoes A2 s to) (g 8) s f 1 (g 4 + g 6)
def qAnsRead (A : Rw) (s : Nat) : Rw :=
  if cnt5 (qMem A s).1 < 2 * cnt5 (A (514 * s + 15) &&& (qMem A s).1) ∧ ((qMem A s).2.1 = 0 ∨ cnt5 (qMem A s).2.1 < 2 * cnt5 (A (514 * s + 15) &&& (qMem A s).2.1)) then
    up (up (up A (514 * s + 11) 2) (514 * s + 13) (A (514 * s + 16 + (A (514 * s + 12)).toNatClampNeg))) (514 * s + 15) 0 else A
def qHears (A : Rw) (m8 : Int32) (s f : Nat) : Rw :=
  if ¬ A (514 * s + 11) = 1 ∨ m8 < A (514 * s + 14) then A else qAnsRead (up A (514 * s + 15) (A (514 * s + 15) ||| (1 : Int32) <<< (nI f &&& 31))) s
def qGoesOn (A : Rw) (s f : Nat) : Rw :=
  let A1 := qAgr A s
  if A1 (514 * s + 3) = 2 ∧ ¬ A1 (514 * s + 4) < A1 (514 * s + 24 + f) then qFeed A1 s f else A1
def gt (x y : Int32) : Int32 := if y < x then x else y
def ls (x y : Int32) : Int32 := if x < y then x else y
def qTook (A : Rw) (m8 : Int32) (s f : Nat) (is : Prop) [Decidable is] (place : Int32) : Rw :=
  let A1 := qHears A m8 s f
  if ¬ is then qFeed (up A1 (514 * s + 24 + f) (gt (ls (A1 (514 * s + 24 + f)) (place + 1)) (A1 (514 * s + 29 + f) + 1))) s f else
  let A2 := up A1 (514 * s + 29 + f) (gt (A1 (514 * s + 29 + f)) place)
  qGoesOn (up A2 (514 * s + 24 + f) (A2 (514 * s + 29 + f) + 1)) s f
def qSnapIn (A g : Rw) (s : Nat) (place tm : Int32) : Rw :=
  let A1 := if qTermAt A s place = tm then A else up A (514 * s + 4) place
  let A2 := up (up (up A1 (514 * s + 5) place) (514 * s + 6) tm) (514 * s + 7) place
  let A3 : Rw := fun i => if 514 * s + 16 ≤ i ∧ i < 514 * s + 20 then g (9 + (i - (514 * s + 16))) else if 514 * s + 20 ≤ i ∧ i < 514 * s + 24 then g (9 + (i - (514 * s + 20))) else A2 i
  up (up A3 (514 * s + 9) (g 13)) (514 * s + 10) (g 14)
def qInstalls (A g : Rw) (s f : Nat) (isOf : Prop) [Decidable isOf] : Rw :=
  let A1 := if isOf then (if (qPlays A s 0) (514 * s + 7) < g 4 then qSnapIn (qPlays A s 0) g s (g 4) (g 5) else qPlays A s 0) else A
  qPost A1 s f (rowS (nI s) (nI f) (A1 (514 * s + 1)) 5 (if isOf then g 4 else 0) 0 (g 8))
def qInstalled (A : Rw) (m8 : Int32) (s f : Nat) (place : Int32) : Rw :=
  let A1 := qHears A m8 s f
  if place = 0 then A1 else
  let A2 := up A1 (514 * s + 29 + f) (gt (A1 (514 * s + 29 + f)) place)
  qGoesOn (up A2 (514 * s + 24 + f) (gt (A2 (514 * s + 24 + f)) (A2 (514 * s + 29 + f) + 1))) s f
def qWouldBe (A : Rw) (s f : Nat) (tm l lt : Int32) : Rw :=
  if A (514 * s + 1) < tm ∧ ¬ A (514 * s + 3) = 2 ∧ (qTermAt A s (A (514 * s + 4)) < lt ∨ (lt = qTermAt A s (A (514 * s + 4)) ∧ ¬ l < A (514 * s + 4))) then qPost A s f (rowS (nI s) (nI f) tm 8 1 0 0) else qPost A s f (rowS (nI s) (nI f) (A (514 * s + 1)) 8 0 0 0)
def qWould (A : Rw) (s f : Nat) (is : Prop) [Decidable is] (tm : Int32) : Rw :=
  if ¬ is then (if A (514 * s + 1) < tm then qFollow A s tm else A) else
  if ¬ tm = A (514 * s + 1) + 1 then A else
  let A1 := up A (514 * s + 8) (A (514 * s + 8) ||| (1 : Int32) <<< (nI f &&& 31))
  if cnt5 (qMem A1 s).1 < 2 * cnt5 (A1 (514 * s + 8) &&& (qMem A1 s).1) ∧ ((qMem A1 s).2.1 = 0 ∨ cnt5 (qMem A1 s).2.1 < 2 * cnt5 (A1 (514 * s + 8) &&& (qMem A1 s).2.1)) then qStands A1 s else A1
/-- a message g, taken out, is heard by s -/
def qHeard (A g : Rw) (s f : Nat) : Rw :=
  if g 3 = 0 then qAsked A s f (g 2 = A (514 * s + 1)) (g 4) (g 5) else
  if g 3 = 1 then (if g 2 = A (514 * s + 1) ∧ g 4 = 1 ∧ A (514 * s + 3) = 1 then qVoted A s f else A) else
  if g 3 = 2 then qTakes A g s f (g 2 = A (514 * s + 1)) else
  if g 3 = 3 then (if g 2 = A (514 * s + 1) ∧ A (514 * s + 3) = 2 then qTook A (g 8) s f (g 4 = 1) (g 5) else A) else
  if g 3 = 4 then qInstalls A g s f (g 2 = A (514 * s + 1)) else
  if g 3 = 6 then (if g 2 = A (514 * s + 1) ∧ ¬ A (514 * s + 3) = 2 ∧ (((qMem A s).1 ||| (qMem A s).2.1) >>> (nI s &&& 31)) &&& 1 = 1 ∧ A (514 * s + 1) < 200 then qStands A s else A) else
  if g 3 = 7 then qWouldBe A s f (g 2) (g 4) (g 5) else
  if g 3 = 8 then (if A (514 * s + 3) = 3 then qWould A s f (g 4 = 1) (g 2) else A) else
  (if g 2 = A (514 * s + 1) ∧ A (514 * s + 3) = 2 then qInstalled A (g 8) s f (g 4) else A)
abbrev canCm (A : Rw) (f s : Nat) : Prop := A (514 * s) = 1 ∧ (A 4513 >>> ((5 * nI f + nI s) &&& 31)) &&& 1 = 1
def qComes (A : Rw) (i : Nat) : Rw :=
  let g := rowM A i
  let s := (g 1).toNatClampNeg
  let f := (g 0).toNatClampNeg
  let A1 := qOut A i
  if ¬ canCm A1 f s then up A1 4511 (A1 4511 + 1) else
  let A2 := up A1 4512 (A1 4512 + 1)
  let A3 := if A2 (514 * s + 1) < g 2 ∧ g 3 < 7 then qFollow A2 s (g 2) else A2
  qHeard A3 g s f
def vComes (A : Rw) (i : Nat) : Int32 := if canCm (qOut A i) ((rowM A i) 0).toNatClampNeg ((rowM A i) 1).toNatClampNeg then 1 else 0
def setF : Nat → Rw → Rw := fun n A => match n with
  | 0 => A
  | n + 1 => if 0 < A 4510 then setF n (qComes A 0) else A
def setN : Nat → Rw → Nat := fun n A => match n with
  | 0 => 0
  | n + 1 => if 0 < A 4510 then setN n (qComes A 0) + 1 else 0
