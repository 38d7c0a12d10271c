/-! the register as a value, and what each call answers and makes of it -/
abbrev Tl : Type := List (Int32 × Int32)
abbrev St : Type := (Nat → Nat) × Int32 × Int64 × (Nat → Int32) × (Nat → Nat → Int32) × (Nat → Nat → Int32) × (Nat → Nat → Tl) × (Nat → Nat → Int32) × (Nat → Nat → Int32)
/-- counts: 0 keepers, 1 vehicles, 2 plates, 3 notices -/
def sN (S : St) : Nat → Nat := S.1
/-- the day -/
def sD (S : St) : Int32 := S.2.1
/-- what was paid in all -/
def sC (S : St) : Int64 := S.2.2.1
/-- what a keeper has paid -/
def sP (S : St) : Nat → Int32 := S.2.2.2.1
/-- a vehicle's numbers: 1 kind, 6 admitted, 7 scrapped -/
def sV (S : St) : Nat → Nat → Int32 := S.2.2.2.2.1
/-- a vehicle's liens by lender -/
def sL (S : St) : Nat → Nat → Int32 := S.2.2.2.2.2.1
/-- timelines: 0 keepers, 1 plates, 2 road of a vehicle; 3 places of a plate -/
def sT (S : St) : Nat → Nat → Tl := S.2.2.2.2.2.2.1
/-- a plate: 2 for whom it is kept (or -1), 3 when it was taken off -/
def sQ (S : St) : Nat → Nat → Int32 := S.2.2.2.2.2.2.2.1
/-- a notice: 1 seller (or -1), 2 vehicle, 3 buyer, 4 day, 5 state, 6 partner -/
def sO (S : St) : Nat → Nat → Int32 := S.2.2.2.2.2.2.2.2
def uN (S : St) (k n : Nat) : St := (va_up (sN S) k n, sD S, sC S, sP S, sV S, sL S, sT S, sQ S, sO S)
def uD (S : St) (d : Int32) : St := (sN S, d, sC S, sP S, sV S, sL S, sT S, sQ S, sO S)
def uC (S : St) (c : Int64) : St := (sN S, sD S, c, sP S, sV S, sL S, sT S, sQ S, sO S)
def uP (S : St) (k : Nat) (x : Int32) : St := (sN S, sD S, sC S, va_up (sP S) k x, sV S, sL S, sT S, sQ S, sO S)
def uV (S : St) (v k : Nat) (x : Int32) : St := (sN S, sD S, sC S, sP S, up2 (sV S) v k x, sL S, sT S, sQ S, sO S)
def uL (S : St) (v k : Nat) (x : Int32) : St := (sN S, sD S, sC S, sP S, sV S, up2 (sL S) v k x, sT S, sQ S, sO S)
def uT (S : St) (r i : Nat) (x : Tl) : St := (sN S, sD S, sC S, sP S, sV S, sL S, up2 (sT S) r i x, sQ S, sO S)
def uQ (S : St) (p k : Nat) (x : Int32) : St := (sN S, sD S, sC S, sP S, sV S, sL S, sT S, up2 (sQ S) p k x, sO S)
def uO (S : St) (n k : Nat) (x : Int32) : St := (sN S, sD S, sC S, sP S, sV S, sL S, sT S, sQ S, up2 (sO S) n k x)
/-! timelines -/
def look (l : Tl) (d : Int32) : Int32 := l.foldl (fun a e => if e.1 ≤ d then e.2 else a) (-1)
def lastV (l : Tl) : Int32 := (l.getLast?.map Prod.snd).getD (-1)
def lastD (l : Tl) : Int32 := (l.getLast?.map Prod.fst).getD (-1)
def setT (l : Tl) (d x : Int32) : Tl := if l.getLast?.map Prod.fst = some d then l.dropLast ++ [(d, x)] else l ++ [(d, x)]
/-! what is asked -/
abbrev ix (x : Int32) : Nat := x.toNatClampNeg
def isIx (x : Int32) (n : Nat) : Bool := decide (0 ≤ x.toInt ∧ x.toInt < (n : Int))
def isDay (S : St) (d : Int32) : Bool := decide (0 ≤ d ∧ d ≤ sD S)
def kindOk (c : Int32) : Bool := decide (c = 99 ∨ c = 109 ∨ c = 108 ∨ c = 104)
def taxOf (c : Int32) : Int32 := if c = 99 then 60 else if c = 109 then 20 else if c = 108 then 150 else 0
def lendOk (c : Int32) : Bool := decide (97 ≤ c ∧ c ≤ 102)
def blk (S : St) (v : Nat) : Bool := decide (sV S v 7 = 1) || (List.range 6).any (fun j => decide (0 < sL S v j))
def keptQ (S : St) (p : Nat) : Bool := decide (sQ S p 2 ≠ -1) && decide (sD S < sQ S p 3 + 361)
/-- how many of the first n do -/
def cnt (f : Nat → Bool) : Nat → Nat
  | 0 => 0
  | n + 1 => cnt f n + (if f n then 1 else 0)
abbrev Res : Type := Nat × Value × St
def bz (b : Bool) : Int32 := if b then 1 else 0
def no (k : Nat) (S : St) : Res := (k, .int 0, S)
def oAddKeeper (S : St) : Res := if sN S 0 = 12 then no 1 S else (0, .int (nI (sN S 0)), uN S 0 (sN S 0 + 1))
def oPass (S : St) (d : Int32) : Res := if d < 1 ∨ 99 < d ∨ 3000 < sD S + d then no 1 S else (0, .int (sD S + d), uD S (sD S + d))
def oDay (S : St) : Res := (0, .int (sD S), S)
def addV (S : St) (who kind : Int32) : St :=
  let i := sN S 1
  let S1 := uV (uV (uV S i 1 kind) i 6 0) i 7 0
  let S2 := uL (uL (uL (uL (uL (uL S1 i 0 0) i 1 0) i 2 0) i 3 0) i 4 0) i 5 0
  uN (uT (uT (uT S2 0 i [(sD S, who)]) 1 i []) 2 i []) 1 (i + 1)
def mountQ (S : St) (p v : Nat) : St := let S1 := uT (uQ S p 2 (-1)) 3 p (setT (sT S 3 p) (sD S) (nI v)); uT S1 1 v (setT (sT S1 1 v) (sD S) (nI p))
def issueQ (S : St) (v : Nat) : St := let p := sN S 2; mountQ (uN (uT (uQ (uQ S p 2 (-1)) p 3 (-1)) 3 p []) 2 (p + 1)) p v
def onRoad (S : St) (v : Nat) : St := let S1 := uV (issueQ S v) v 6 1; uT S1 2 v (setT (sT S1 2 v) (sD S) 1)
def oRegister (S : St) (who kind : Int32) : Res := if isIx who (sN S 0) = false then no 1 S else if kindOk kind = false then no 2 S else if sN S 1 = 15 ∨ sN S 2 = 40 then no 3 S else (0, .int (nI (sN S 1)), onRoad (addV S who kind) (sN S 1))
def oBringIn (S : St) (who kind : Int32) : Res := if isIx who (sN S 0) = false then no 1 S else if kindOk kind = false then no 2 S else if sN S 1 = 15 then no 3 S else (0, .int (nI (sN S 1)), addV S who kind)
def oAdmit (S : St) (v : Int32) : Res := if isIx v (sN S 1) = false then no 1 S else if sV S (ix v) 6 = 1 then no 2 S else if sV S (ix v) 7 = 1 ∨ sN S 2 = 40 then no 3 S else (0, .int (nI (sN S 2)), onRoad S (ix v))
def oSetOnRoad (S : St) (v b : Int32) : Res := if isIx v (sN S 1) = false then no 1 S else if sV S (ix v) 7 = 1 ∨ lastV (sT S 1 (ix v)) = -1 then no 2 S else (0, .int (bz (decide (lastV (sT S 2 (ix v)) = 1))), uT S 2 (ix v) (setT (sT S 2 (ix v)) (sD S) b))
def oIsOnRoad (S : St) (v d : Int32) : Res := if isIx v (sN S 1) = false then no 1 S else if isDay S d = false then no 2 S else (0, .int (bz (decide (look (sT S 2 (ix v)) d = 1))), S)
def voidQ (S : St) (p : Nat) : St := uT (uQ S p 2 (-1)) 3 p (setT (sT S 3 p) (sD S) (-1))
def scrapV (S : St) (v : Nat) : St :=
  let S1 := uV S v 7 1
  let S2 := uT S1 2 v (setT (sT S1 2 v) (sD S) 0)
  let p := lastV (sT S2 1 v)
  let S3 := if p = -1 then S2 else voidQ S2 (ix p)
  uT S3 1 v (setT (sT S3 1 v) (sD S) (-1))
def oScrap (S : St) (v : Int32) : Res := if isIx v (sN S 1) = false then no 1 S else if blk S (ix v) then no 2 S else (0, .int (nI (cnt (fun i => decide (sV (scrapV S (ix v)) i 7 ≠ 1)) (sN S 1))), scrapV S (ix v))
def oKindOf (S : St) (v : Int32) : Res := if isIx v (sN S 1) = false then no 1 S else (0, .int (sV S (ix v) 1), S)
def oVehicles (S : St) : Res := (0, .int (nI (sN S 1)), S)
/-! notices -/
def fitS (S : St) (v s : Nat) : Bool := decide (sO S s 5 = 111) && decide (sO S s 2 = nI v) && decide (sO S s 1 = lastV (sT S 0 v)) && decide (lastD (sT S 0 v) ≤ sO S s 4)
def near (a b : Int32) : Bool := decide (a - b ≤ 7 ∧ -7 ≤ a - b)
def fitB (S : St) (s b : Nat) : Bool := decide (sO S b 1 = -1) && decide (sO S b 5 = 111) && decide (sO S b 2 = sO S s 2) && decide (sO S b 3 = sO S s 3) && near (sO S b 4) (sO S s 4)
/-- the first below n that does -/
def fst1 (f : Nat → Bool) : Nat → Option Nat
  | 0 => none
  | n + 1 => match fst1 f n with
    | some i => some i
    | none => if f n then some n else none
def buyerOf (S : St) (s : Nat) : Option Nat := fst1 (fitB S s) (sN S 3)
def pairOf (S : St) (v : Nat) : Option Nat := fst1 (fun s => fitS S v s && (buyerOf S s).isSome) (sN S 3)
def useQ (S : St) (v s b : Nat) : St :=
  let S1 := uO (uO S s 5 117) s 6 (nI b)
  let S2 := uO (uO S1 b 5 117) b 6 (nI s)
  uT S2 0 v (sT S2 0 v ++ [(sO S2 s 4, sO S2 s 3)])
def stepQ (S : St) (v : Nat) : Option St := if blk S v then none else match pairOf S v with
  | none => none
  | some s => match buyerOf S s with
    | none => none
    | some b => some (useQ S v s b)
def settleQ : Nat → St → Nat → St
  | 0, S, _ => S
  | n + 1, S, v => match stepQ S v with
    | none => S
    | some S1 => settleQ n S1 v
def enterQ (S : St) (who : Int32) (v : Nat) (to day : Int32) : St :=
  let n := sN S 3
  let S1 := uO (uO (uO (uO (uO (uO S n 1 who) n 2 (nI v)) n 3 to) n 4 day) n 5 111) n 6 (-1)
  settleQ 120 (uN S1 3 (n + 1)) v
def oSell (S : St) (a v b d : Int32) : Res := if isIx a (sN S 0) = false ∨ isIx b (sN S 0) = false ∨ isIx v (sN S 1) = false then no 1 S else if isDay S d = false then no 2 S else if a = b then no 3 S else if sN S 3 = 120 then no 4 S else (0, .int (nI (sN S 3)), enterQ S a (ix v) b d)
def oBuy (S : St) (b v d : Int32) : Res := if isIx b (sN S 0) = false ∨ isIx v (sN S 1) = false then no 1 S else if isDay S d = false then no 2 S else if sN S 3 = 120 then no 3 S else (0, .int (nI (sN S 3)), enterQ S (-1) (ix v) b d)
def oWithdraw (S : St) (n : Int32) : Res := if isIx n (sN S 3) = false then no 1 S else if sO S (ix n) 5 ≠ 111 then no 2 S else (0, .int (nI (cnt (fun i => decide (sO (uO S (ix n) 5 119) i 5 = 111)) (sN S 3))), uO S (ix n) 5 119)
def oStateOf (S : St) (n : Int32) : Res := if isIx n (sN S 3) = false then no 1 S else (0, .int (sO S (ix n) 5), S)
def oPartnerOf (S : St) (n : Int32) : Res := if isIx n (sN S 3) = false then no 1 S else if sO S (ix n) 5 ≠ 117 then no 2 S else (0, .int (sO S (ix n) 6), S)
def oOpen (S : St) (v : Int32) : Res := if isIx v (sN S 1) = false then no 1 S else (0, .int (nI (cnt (fun i => decide (sO S i 5 = 111 ∧ sO S i 2 = v)) (sN S 3))), S)
def oLookT (r : Nat) (S : St) (v d : Int32) : Res := if isIx v (sN S 1) = false then no 1 S else if isDay S d = false then no 2 S else if look (sT S r (ix v)) d = -1 then no 3 S else (0, .int (look (sT S r (ix v)) d), S)
def oTransfers (S : St) (v : Int32) : Res := if isIx v (sN S 1) = false then no 1 S else (0, .int (nI (sT S 0 (ix v)).length), S)
def oTransferDay (S : St) (v k : Int32) : Res := if isIx v (sN S 1) = false ∨ isIx k (sT S 0 (ix v)).length = false then no 1 S else (0, .int ((sT S 0 (ix v)).getD (ix k) (0, 0)).1, S)
def oKeptBy (S : St) (k : Int32) : Res := if isIx k (sN S 0) = false then no 1 S else (0, .int (nI (cnt (fun i => decide (sV S i 7 ≠ 1) && decide (lastV (sT S 0 i) = k)) (sN S 1))), S)
def oAddLien (S : St) (v c a : Int32) : Res := if isIx v (sN S 1) = false then no 1 S else if lendOk c = false ∨ a < 1 ∨ 9999 < a then no 2 S else if sV S (ix v) 7 = 1 then no 3 S else (0, .int (sL S (ix v) (ix (c - 97)) + a), uL S (ix v) (ix (c - 97)) (sL S (ix v) (ix (c - 97)) + a))
def oPayLien (S : St) (v c a : Int32) : Res := if isIx v (sN S 1) = false then no 1 S else if lendOk c = false ∨ sL S (ix v) (ix (c - 97)) = 0 then no 2 S else if a < 1 ∨ sL S (ix v) (ix (c - 97)) < a then no 3 S else
  let S1 := uL S (ix v) (ix (c - 97)) (sL S (ix v) (ix (c - 97)) - a)
  (0, .int (sL S (ix v) (ix (c - 97)) - a), if a = sL S (ix v) (ix (c - 97)) then settleQ 120 S1 (ix v) else S1)
def oLienOf (S : St) (v c : Int32) : Res := if isIx v (sN S 1) = false then no 1 S else if lendOk c = false ∨ sL S (ix v) (ix (c - 97)) = 0 then no 2 S else (0, .int (sL S (ix v) (ix (c - 97))), S)
def oIsBlocked (S : St) (v : Int32) : Res := if isIx v (sN S 1) = false then no 1 S else (0, .int (bz (blk S (ix v))), S)
/-! plates -/
def keepQ (S : St) (v : Nat) : St :=
  let p := ix (lastV (sT S 1 v))
  issueQ (uT (uQ (uQ S p 2 (lastV (sT S 0 v))) p 3 (sD S)) 3 p (setT (sT S 3 p) (sD S) (-1))) v
def oKeepPlate (S : St) (v : Int32) : Res := if isIx v (sN S 1) = false then no 1 S else if lastV (sT S 1 (ix v)) = -1 then no 2 S else if blk S (ix v) = true ∨ sN S 2 = 40 then no 3 S else (0, .int (nI (sN S 2)), keepQ S (ix v))
def oPutOn (S : St) (p v : Int32) : Res := if isIx p (sN S 2) = false then no 1 S else if isIx v (sN S 1) = false then no 2 S else if keptQ S (ix p) = false ∨ sQ S (ix p) 2 ≠ lastV (sT S 0 (ix v)) then no 3 S else if blk S (ix v) = true ∨ lastV (sT S 1 (ix v)) = -1 then no 4 S else (0, .int (lastV (sT S 1 (ix v))), mountQ (voidQ S (ix (lastV (sT S 1 (ix v))))) (ix p) (ix v))
def oSwap (S : St) (v w : Int32) : Res := if isIx v (sN S 1) = false ∨ isIx w (sN S 1) = false then no 1 S else if v = w ∨ lastV (sT S 0 (ix v)) ≠ lastV (sT S 0 (ix w)) then no 2 S else if blk S (ix v) = true ∨ blk S (ix w) = true ∨ lastV (sT S 1 (ix v)) = -1 ∨ lastV (sT S 1 (ix w)) = -1 then no 3 S else (0, .int (lastV (sT S 1 (ix w))), mountQ (mountQ S (ix (lastV (sT S 1 (ix w)))) (ix v)) (ix (lastV (sT S 1 (ix v)))) (ix w))
def oPlateState (S : St) (p : Int32) : Res := if isIx p (sN S 2) = false then no 1 S else (0, .int (if lastV (sT S 3 (ix p)) ≠ -1 then 118 else if keptQ S (ix p) then 107 else 120), S)
def oDaysKept (S : St) (p : Int32) : Res := if isIx p (sN S 2) = false then no 1 S else if keptQ S (ix p) = false then no 2 S else (0, .int (sQ S (ix p) 3 + 361 - sD S), S)
def oPlates (S : St) : Res := (0, .int (nI (sN S 2)), S)
def oVehicleWith (S : St) (p d : Int32) : Res := if isIx p (sN S 2) = false then no 1 S else if isDay S d = false then no 2 S else if look (sT S 3 (ix p)) d = -1 then no 3 S else (0, .int (look (sT S 3 (ix p)) d), S)
/-! taxes: the first day of the n days from b on, on which it is on the road -/
def fday (l : Tl) (b : Nat) : Nat → Option Nat := fst1 (fun k => decide (look l (nI (b + k)) = 1))
/-- how many days of the quarter q have come -/
def qlen (D q : Nat) : Nat := min 90 (D + 1 - 90 * q)
def rday (S : St) (v q : Nat) : Option Nat := (fday (sT S 2 v) (90 * q) (qlen (ix (sD S)) q)).map (fun k => 90 * q + k)
def taxQ (S : St) (k : Int32) (v q : Nat) : Int32 := match rday S v q with
  | none => 0
  | some d => if look (sT S 0 v) (nI d) = k then taxOf (sV S v 1) else 0
def sum32 (f : Nat → Int32) : Nat → Int32
  | 0 => 0
  | n + 1 => sum32 f n + f n
def owe (S : St) (k : Nat) : Int32 := -sP S k + sum32 (fun v => sum32 (fun q => taxQ S (nI k) v q) (ix (sD S) / 90 + 1)) (sN S 1)
def oDue (S : St) (v q : Int32) : Res := if isIx v (sN S 1) = false then no 1 S else if isIx q (ix (sD S) / 90 + 1) = false then no 2 S else (0, .int (if rday S (ix v) (ix q) = none then 0 else taxOf (sV S (ix v) 1)), S)
def oOwes (S : St) (k : Int32) : Res := if isIx k (sN S 0) = false then no 1 S else (0, .int (owe S (ix k)), S)
def oPay (S : St) (k a : Int32) : Res := if isIx k (sN S 0) = false then no 1 S else if a < 1 ∨ 9999 < a then no 2 S else
  let S1 := uC (uP S (ix k) (sP S (ix k) + a)) (sC S + a.toInt64)
  (0, .int (owe S1 (ix k)), S1)
/-- the first keeper who owes most, and more than 0 -/
def most (f : Nat → Int32) : Nat → Int32 × Int32
  | 0 => (-1, 0)
  | n + 1 => if (most f n).2 < f n then (nI n, f n) else most f n
def oMost (S : St) : Res := if (most (owe S) (sN S 0)).1 = -1 then no 1 S else (0, .int (most (owe S) (sN S 0)).1, S)
def oCollected (S : St) : Res := (0, .long (sC S), S)
def roadN (S : St) : Nat := cnt (fun v => decide (lastV (sT S 2 v) = 1)) (sN S 1)
def passN (S : St) : Nat → Nat
  | 0 => 0
  | n + 1 => passN S n + (sT S 0 n).length
def oRoadShare (S : St) : Res := if sN S 1 = 0 then no 1 S else (0, .float (FP.fdiv (FP.i2f (nI (roadN S))) (FP.i2f (nI (sN S 1)))), S)
def oMean (S : St) : Res := if sN S 1 = 0 then no 1 S else (0, .double (FP.ddiv (FP.i2d (nI (passN S (sN S 1)))) (FP.i2d (nI (sN S 1)))), S)
def oSound (S : St) : Res := (0, .int 1, S)
