/-! what a state of the system IS, and what each step does to it (pure) -/
abbrev sBr : Type := Nat × Nat × Nat × Int32 × Bool
abbrev sA : Type := (Nat → Nat → Nat) × (Nat → Nat → Int32) × (Nat → Nat → Int64) × List sBr × (Nat → Nat → List Int64)
def aN (α : sA) : Nat → Nat → Nat := α.1
def aI (α : sA) : Nat → Nat → Int32 := α.2.1
def aL (α : sA) : Nat → Nat → Int64 := α.2.2.1
def aB (α : sA) : List sBr := α.2.2.2.1
def aQ (α : sA) : Nat → Nat → List Int64 := α.2.2.2.2
def up2 {β : Type} (f : Nat → Nat → β) (a i : Nat) (v : β) : Nat → Nat → β := fun b j => if b = a ∧ j = i then v else f b j
def sN (α : sA) (f i v : Nat) : sA := (up2 α.1 f i v, α.2)
def sI (α : sA) (f i : Nat) (v : Int32) : sA := (α.1, up2 α.2.1 f i v, α.2.2)
def sL (α : sA) (f i : Nat) (v : Int64) : sA := (α.1, α.2.1, up2 α.2.2.1 f i v, α.2.2.2)
def sB (α : sA) (B : List sBr) : sA := (α.1, α.2.1, α.2.2.1, B, α.2.2.2.2)
def sQ (α : sA) (f i : Nat) (v : List Int64) : sA := (α.1, α.2.1, α.2.2.1, α.2.2.2.1, up2 α.2.2.2.2 f i v)
theorem aN_sN (α : sA) (f i v g j : Nat) : aN (sN α f i v) g j = if g = f ∧ j = i then v else aN α g j := rfl
theorem aN_sI (α : sA) (f i : Nat) (v : Int32) : aN (sI α f i v) = aN α := rfl
theorem aN_sL (α : sA) (f i : Nat) (v : Int64) : aN (sL α f i v) = aN α := rfl
theorem aN_sB (α : sA) (B : List sBr) : aN (sB α B) = aN α := rfl
theorem aN_sQ (α : sA) (f i : Nat) (v : List Int64) : aN (sQ α f i v) = aN α := rfl
theorem aI_sN (α : sA) (f i v : Nat) : aI (sN α f i v) = aI α := rfl
theorem aI_sI (α : sA) (f i : Nat) (v : Int32) (g j : Nat) : aI (sI α f i v) g j = if g = f ∧ j = i then v else aI α g j := rfl
theorem aI_sL (α : sA) (f i : Nat) (v : Int64) : aI (sL α f i v) = aI α := rfl
theorem aI_sB (α : sA) (B : List sBr) : aI (sB α B) = aI α := rfl
theorem aI_sQ (α : sA) (f i : Nat) (v : List Int64) : aI (sQ α f i v) = aI α := rfl
theorem aL_sN (α : sA) (f i v : Nat) : aL (sN α f i v) = aL α := rfl
theorem aL_sI (α : sA) (f i : Nat) (v : Int32) : aL (sI α f i v) = aL α := rfl
theorem aL_sL (α : sA) (f i : Nat) (v : Int64) (g j : Nat) : aL (sL α f i v) g j = if g = f ∧ j = i then v else aL α g j := rfl
theorem aL_sB (α : sA) (B : List sBr) : aL (sB α B) = aL α := rfl
theorem aL_sQ (α : sA) (f i : Nat) (v : List Int64) : aL (sQ α f i v) = aL α := rfl
theorem aB_sN (α : sA) (f i v : Nat) : aB (sN α f i v) = aB α := rfl
theorem aB_sI (α : sA) (f i : Nat) (v : Int32) : aB (sI α f i v) = aB α := rfl
theorem aB_sL (α : sA) (f i : Nat) (v : Int64) : aB (sL α f i v) = aB α := rfl
theorem aB_sB (α : sA) (B : List sBr) : aB (sB α B) = B := rfl
theorem aB_sQ (α : sA) (f i : Nat) (v : List Int64) : aB (sQ α f i v) = aB α := rfl
theorem aQ_sN (α : sA) (f i v : Nat) : aQ (sN α f i v) = aQ α := rfl
theorem aQ_sI (α : sA) (f i : Nat) (v : Int32) : aQ (sI α f i v) = aQ α := rfl
theorem aQ_sL (α : sA) (f i : Nat) (v : Int64) : aQ (sL α f i v) = aQ α := rfl
theorem aQ_sB (α : sA) (B : List sBr) : aQ (sB α B) = aQ α := rfl
theorem aQ_sQ (α : sA) (f i : Nat) (v : List Int64) (g j : Nat) : aQ (sQ α f i v) g j = if g = f ∧ j = i then v else aQ α g j := rfl
/- N: 0 cells, 1 portables, 2 beacon c, 3 place p, 4 reach pl, 5 noise 120 w + ch, 6 time, 7 heard in all p
   I: 0 entered p, 1 state p, 2 partner p, 3 since p, 4: (0 made, 1 actives, 2 ended, 3 handovers, 4 ups, 5 heard), 5 refusals k
   L: 0 key p, 1 exchange's key p, 2: (0 air up, 1 air down);  Q: 0 said p, 1 waiting p, 2 kept p
   a bearer: of, at, channel, fails, good -/
abbrev nCell (α : sA) : Nat := aN α 0 0
abbrev nPort (α : sA) : Nat := aN α 1 0
abbrev bOf (x : sBr) : Nat := x.1
abbrev bAt (x : sBr) : Nat := x.2.1
abbrev bCh (x : sBr) : Nat := x.2.2.1
abbrev bFl (x : sBr) : Int32 := x.2.2.2.1
abbrev bGd (x : sBr) : Bool := x.2.2.2.2
def pReach (α : sA) (c pl : Nat) : Bool := (aN α 4 pl).testBit c
def pSends (α : sA) (c ch : Nat) : Bool := decide (aN α 2 c = ch) || (aB α).any (fun x => decide (bAt x = c) && decide (bCh x = ch))
def pTalks (α : sA) (q ch : Nat) : Bool := (aB α).any (fun x => decide (bOf x = q) && decide (bCh x = ch))
def pCnt (f : Nat → Bool) : Nat → Nat
  | 0 => 0
  | k + 1 => pCnt f k + (if f k then 1 else 0)
def pOSend (α : sA) (c pl ch : Nat) : Nat := pCnt (fun d => decide (d ≠ c) && (pReach α d pl && pSends α d ch)) (nCell α)
def pOTalk (α : sA) (p c ch : Nat) : Nat := pCnt (fun q => decide (q ≠ p) && (pTalks α q ch && pReach α c (aN α 3 q))) (nPort α)
def pHAt (α : sA) (pl c ch : Nat) : Bool := pReach α c pl && (decide (aN α 5 (120 * pl + ch) = 0) && decide (pOSend α c pl ch = 0))
def pHBy (α : sA) (c p ch : Nat) : Bool := pReach α c (aN α 3 p) && (decide (aN α 5 (120 * (16 + c) + ch) = 0) && decide (pOTalk α p c ch = 0))
def pLev (α : sA) (p c ch : Nat) : Nat := (if aN α 5 (120 * aN α 3 p + ch) = 0 then 0 else 4) + (if aN α 5 (120 * (16 + c) + ch) = 0 then 0 else 4) + pOSend α c (aN α 3 p) ch + pOTalk α p c ch
def pNb (α : sA) (p : Nat) : Nat := (aB α).countP (fun x => decide (bOf x = p))
def pFst (α : sA) (p : Nat) : Option sBr := (aB α).find? (fun x => decide (bOf x = p))
def pHo (α : sA) (p : Nat) : Bool := decide (pNb α p = 1) && (match pFst α p with
  | some x => decide ((3 : Int32) ≤ bFl x)
  | none => false)
def pGood (α : sA) (p : Nat) : Bool := (aB α).any (fun x => decide (bOf x = p) && bGd x)
def pTaken (α : sA) (p c slot : Nat) : Bool := decide (aN α 2 c / 10 = slot) || (aB α).any (fun x => (decide (bAt x = c) || decide (bOf x = p)) && decide (bCh x / 10 = slot))
def pMix (key n : Int64) : Int64 :=
  let x := key ^^^ (n * 7046029254386353131)
  let x := (x ^^^ ((x.toUInt64 >>> ((29 : Int32).toInt64.toUInt64 &&& Int64.toUInt64 63)).toInt64)) * (-4658895280553007687)
  (x ^^^ ((x.toUInt64 >>> ((29 : Int32).toInt64.toUInt64 &&& Int64.toUInt64 63)).toInt64)) * (-4658895280553007687)
/-- the first of the numbers below n -/
def pFind (f : Nat → Bool) : Nat → Option Nat
  | 0 => none
  | k + 1 => match pFind f k with
    | some c => some c
    | none => if f k then some k else none
def pOwn (α : sA) (p : Nat) : Option Nat := if pHo α p then (pFst α p).map bAt else none
def pBest (α : sA) (p : Nat) : Option Nat :=
  match pFind (fun c => decide (pOwn α p ≠ some c) && pHAt α (aN α 3 p) c (aN α 2 c)) (nCell α) with
  | some c => some c
  | none => match pOwn α p with
    | some c => if pHAt α (aN α 3 p) c (aN α 2 c) then some c else none
    | none => none
def pLv (α : sA) (p c ch : Nat) : Nat := if pTaken α p c (ch / 10) then 4 else pLev α p c ch
def pChan (α : sA) (p c : Nat) : Nat → Option Nat × Nat
  | 0 => (none, 4)
  | k + 1 => if pLv α p c k < (pChan α p c k).2 then (some k, pLv α p c k) else pChan α p c k
def pCh (α : sA) (p c : Nat) : Option Nat := (pChan α p c 120).1
def pDue (α : sA) (p : Nat) : Bool := decide ((nI (aN α 6 0) - nI p) - (nI (aN α 6 0) - nI p) / 4 * 4 = 0)
def pWants (α : sA) (p : Nat) : Bool := pHo α p || ((decide (aI α 1 p = 1) || decide (aI α 1 p = 4)) && decide (pNb α p = 0))
def pAdd (α : sA) (p c ch : Nat) : sA := sI (sB α (aB α ++ [(p, c, ch, 0, false)])) 4 0 (aI α 4 0 + 1)
def pSetUp (α : sA) (p : Nat) : sA := if pWants α p && pDue α p then
    (match pBest α p with
    | some c => (match pCh α p c with
      | some ch => pAdd α p c ch
      | none => α)
    | none => α)
  else α
def pIsG (α : sA) (x : sBr) : Bool := pHAt α (aN α 3 (bOf x)) (bAt x) (bCh x) && pHBy α (bAt x) (bOf x) (bCh x)
def pSent (α : sA) (x : sBr) : sBr := (bOf x, bAt x, bCh x, if pIsG α x then 0 else bFl x + 1, pIsG α x)
def pSend (α : sA) : sA := sB α ((aB α).map (pSent α))
def pDropF (α : sA) : sA := sB α ((aB α).filter (fun x => !decide ((8 : Int32) ≤ bFl x)))
def pRmFst (p : Nat) : List sBr → List sBr
  | [] => []
  | x :: t => if bOf x = p then t else x :: pRmFst p t
def pLast (α : sA) (p : Nat) : Option sBr := (aB α).reverse.find? (fun x => decide (bOf x = p))
def pHandC (α : sA) (p : Nat) : Bool := decide (pNb α p = 2) && (match pLast α p with
  | some x => bGd x
  | none => false)
def pHand (α : sA) (p : Nat) : sA := if pHandC α p then sI (sB α (pRmFst p (aB α))) 4 3 (aI α 4 3 + 1) else α
def pIdle (α : sA) (p : Nat) : sA := sB (sQ (sQ (sI (sI α 1 p 0) 2 p (-9)) 0 p []) 1 p []) ((aB α).filter (fun x => !decide (bOf x = p)))
def pPar (α : sA) (p : Nat) : Nat := (aI α 2 p).toNatClampNeg
def pCaller (s : Int32) : Bool := decide (1 ≤ s) && decide (s ≤ 3)
def pCalled (s : Int32) : Bool := decide (4 ≤ s) && decide (s ≤ 6)
def pBoth (s t : Int32) : Bool := (decide (s = 7) && decide (t = 7)) || ((pCaller s && pCalled t) || (pCalled s && pCaller t))
def pTog (α : sA) (p : Nat) : Bool := decide (aI α 2 (pPar α p) = nI p) && pBoth (aI α 1 p) (aI α 1 (pPar α p))
def pEnded (α : sA) : sA := sI α 4 2 (aI α 4 2 + 1)
def pEnds (α : sA) (p : Nat) : sA := pEnded (if pTog α p then pIdle (pIdle α p) (pPar α p) else pIdle α p)
def pNoB (α : sA) (p : Nat) : sA := if (decide (aI α 1 p ≠ 0) && (decide (aI α 1 p ≠ 1) && decide (aI α 1 p ≠ 4))) && decide (pNb α p = 0) then pEnds α p else α
def pProven (α : sA) (p : Nat) : Bool := decide (pMix (aL α 0 p) ((nI (aN α 6 0)).toInt64) = pMix (aL α 1 p) ((nI (aN α 6 0)).toInt64))
def pPage (α : sA) (p : Nat) : sA := if decide (aI α 1 (pPar α p) = 0) && decide (aI α 0 (pPar α p) ≠ 0) then sI (sI (sI (sI α 1 p 3) 1 (pPar α p) 4) 2 (pPar α p) (nI p)) 3 (pPar α p) (nI (aN α 6 0)) else pEnds (sI α 1 p 3) p
def pCall (α : sA) (p : Nat) : sA :=
  if pGood α p then
    (if aI α 1 p = 1 then sI α 1 p 2
    else if aI α 1 p = 4 then sI α 1 p 5
    else if aI α 1 p = 2 then (if pProven α p then pPage α p else pEnds α p)
    else if aI α 1 p = 5 then (if pProven α p then sI α 1 p 6 else pEnds α p)
    else α)
  else α
def pUpB (α : sA) (p : Nat) (v : Int64) : Int64 := v ^^^ pMix (aL α 0 p) ((nI (aN α 6 0)).toInt64)
def pUp (α : sA) (p : Nat) : sA :=
  if decide (aI α 1 p = 7) && pGood α p then
    (match aQ α 0 p with
    | [] => α
    | v :: t =>
      let β := sI (sQ (sL α 2 0 (pUpB α p v)) 0 p t) 4 4 (aI α 4 4 + 1)
      if (aQ α 1 (pPar α p)).length < 16 then sQ β 1 (pPar α p) (aQ α 1 (pPar α p) ++ [pUpB α p v ^^^ pMix (aL α 1 p) ((nI (aN α 6 0)).toInt64)]) else β)
  else α
def pKeep (q : List Int64) (v : Int64) : List Int64 := if q.length < 20 then q ++ [v] else q.tail ++ [v]
def pDnB (α : sA) (p : Nat) (v : Int64) : Int64 := v ^^^ pMix (aL α 1 p) ((nI (aN α 6 0)).toInt64 + 1000000)
def pDown (rd : Nat → Nat) (α : sA) (p : Nat) : sA :=
  if (decide (aI α 1 p = 7) && pGood α p) && decide (rd p ≠ 0) then
    (match aQ α 1 p with
    | [] => α
    | v :: t => sI (sN (sQ (sQ (sL α 2 1 (pDnB α p v)) 1 p t) 2 p (pKeep (aQ α 2 p) (pDnB α p v ^^^ pMix (aL α 0 p) ((nI (aN α 6 0)).toInt64 + 1000000)))) 7 p (aN α 7 p + 1)) 4 5 (aI α 4 5 + 1))
  else α
def pPend (s : Int32) : Bool := decide (1 ≤ s) && decide (s ≤ 6)
def pOld (α : sA) (p : Nat) : sA := if pPend (aI α 1 p) && decide ((200 : Int32) < nI (aN α 6 0) - aI α 3 p) then pEnds α p else α
def pAll (f : sA → Nat → sA) (α : sA) : Nat → sA
  | 0 => α
  | k + 1 => f (pAll f α k) k
def pAllP (f : sA → Nat → sA) (α : sA) : sA := pAll f α (nPort α)
def pTick (α : sA) : sA := sN α 6 0 (aN α 6 0 + 1)
def pCalls (α : sA) : sA := pAllP pCall (pAllP pNoB (pAllP pHand (pDropF (pSend (pAllP pSetUp (pTick α))))))
def pVoice (α : sA) : sA := pAllP (pDown (fun p => (aQ α 1 p).length)) (pAllP pUp α)
def pFrame (α : sA) : sA := pAllP pOld (pVoice (pCalls α))
def pFrames (α : sA) : Nat → sA
  | 0 => α
  | k + 1 => pFrame (pFrames α k)
/-! the public calls: the answer and what comes of it -/
def pRef (α : sA) (w : Nat) : Int32 × sA := (-(nI w), sI α 5 w (aI α 5 w + 1))
def pIn (x : Int32) (n : Nat) : Bool := decide (0 ≤ x) && decide (x < nI n)
def oCell (α : sA) (ch : Int32) : Int32 × sA := if !pIn ch 120 then pRef α 1 else if nCell α = 4 then pRef α 6 else (nI (nCell α), sN (sN α 2 (nCell α) ch.toNatClampNeg) 0 0 (nCell α + 1))
def oPortable (α : sA) (pl : Int32) (key : Int64) : Int32 × sA := if !pIn pl 16 then pRef α 1 else if nPort α = 8 then pRef α 6 else (nI (nPort α), sN (sI (sL (sN α 3 (nPort α) pl.toNatClampNeg) 0 (nPort α) key) 2 (nPort α) (-9)) 1 0 (nPort α + 1))
def oReach (α : sA) (pl bits : Int32) : Int32 × sA := if !pIn pl 16 then pRef α 1 else if bits < 0 then pRef α 4 else if 15 < bits then pRef α 6 else (nI (aN α 4 pl.toNatClampNeg), sN α 4 pl.toNatClampNeg bits.toNatClampNeg)
def oNoise (α : sA) (w ch on : Int32) : Int32 × sA := if pIn w (16 + nCell α) && pIn ch 120 && decide (nI (aN α 5 (120 * w.toNatClampNeg + ch.toNatClampNeg)) ≠ on) then (1, sN α 5 (120 * w.toNatClampNeg + ch.toNatClampNeg) on.toNatClampNeg) else (0, α)
def oGo (α : sA) (p pl : Int32) : Int32 × sA := if !(pIn p (nPort α) && pIn pl 16) then pRef α 1 else (nI (aN α 3 p.toNatClampNeg), sN α 3 p.toNatClampNeg pl.toNatClampNeg)
def oEnter (α : sA) (p : Int32) (key : Int64) : Int32 × sA := if !pIn p (nPort α) then pRef α 1 else if aI α 1 p.toNatClampNeg ≠ 0 then pRef α 2 else (1, sL (sI α 0 p.toNatClampNeg 1) 1 p.toNatClampNeg key)
def oDial (α : sA) (p q : Int32) : Int32 × sA := if !(pIn p (nPort α) && (pIn q (nPort α) && decide (p ≠ q))) then pRef α 1 else if aI α 1 p.toNatClampNeg ≠ 0 then pRef α 2 else if aI α 0 p.toNatClampNeg = 0 ∨ aI α 0 q.toNatClampNeg = 0 then pRef α 3 else (1, sI (sI (sI α 1 p.toNatClampNeg 1) 2 p.toNatClampNeg q) 3 p.toNatClampNeg (nI (aN α 6 0)))
def oAnswer (α : sA) (p : Int32) : Int32 × sA := if !pIn p (nPort α) then pRef α 1 else if aI α 1 p.toNatClampNeg ≠ 6 then pRef α 2 else (1, sI (sI (sI α 1 p.toNatClampNeg 7) 1 (pPar α p.toNatClampNeg) 7) 4 1 (aI α 4 1 + 1))
def oHang (α : sA) (p : Int32) : Int32 × sA := if !pIn p (nPort α) then pRef α 1 else if aI α 1 p.toNatClampNeg = 0 then pRef α 2 else (1, pEnds α p.toNatClampNeg)
def oSay (α : sA) (p : Int32) (v : Int64) : Int32 × sA := if !pIn p (nPort α) then pRef α 1 else if aI α 1 p.toNatClampNeg ≠ 7 then pRef α 2 else if (aQ α 0 p.toNatClampNeg).length = 8 then pRef α 6 else (nI ((aQ α 0 p.toNatClampNeg).length + 1), sQ α 0 p.toNatClampNeg (aQ α 0 p.toNatClampNeg ++ [v]))
def oFrames (α : sA) (n : Int32) : Int32 × sA := if n < 1 then pRef α 4 else if 1000 < n ∨ 100000 < nI (aN α 6 0) + n then pRef α 6 else (aI (pFrames α n.toNatClampNeg) 4 5 - aI α 4 5, pFrames α n.toNatClampNeg)
def oHeard (α : sA) (p i : Int32) : Int64 := if pIn p (nPort α) && pIn i (aQ α 2 p.toNatClampNeg).length then (aQ α 2 p.toNatClampNeg).getD i.toNatClampNeg 0 else 0
def oPOf (α : sA) (p what : Int32) : Int32 := if !pIn p (nPort α) then -9 else
  if what = 0 then aI α 1 p.toNatClampNeg else if what = 1 then nI (aN α 3 p.toNatClampNeg) else if what = 2 then aI α 2 p.toNatClampNeg else if what = 3 then nI (pNb α p.toNatClampNeg) else if what = 4 then bI (pHo α p.toNatClampNeg)
  else if what = 5 then nI (aQ α 0 p.toNatClampNeg).length else if what = 6 then nI (aQ α 1 p.toNatClampNeg).length else if what = 7 then nI (aN α 7 p.toNatClampNeg) else if what = 8 then aI α 0 p.toNatClampNeg
  else if what = 9 then (if pPend (aI α 1 p.toNatClampNeg) then nI (aN α 6 0) - aI α 3 p.toNatClampNeg else 0) else -9
def oBearer (α : sA) (i what : Int32) : Int32 := if !pIn i (aB α).length then -9 else
  match (aB α)[i.toNatClampNeg]? with
  | none => -9
  | some x => if what = 0 then nI (bOf x) else if what = 1 then nI (bAt x) else if what = 2 then nI (bCh x) else if what = 3 then bFl x else if what = 4 then bI (bGd x) else -9
def oLevel (α : sA) (p c ch : Int32) : Int32 × sA := if pIn p (nPort α) && (pIn c (nCell α) && pIn ch 120) then (nI (pLev α p.toNatClampNeg c.toNatClampNeg ch.toNatClampNeg), α) else pRef α 1
def oBeacon (α : sA) (c pl : Int32) : Int32 := bI (pIn c (nCell α) && (pIn pl 16 && pHAt α pl.toNatClampNeg c.toNatClampNeg (aN α 2 c.toNatClampNeg)))
def oAir (α : sA) (what : Int32) : Int64 := if what = 0 then aL α 2 0 else if what = 1 then aL α 2 1 else 0
def oCount (α : sA) (what : Int32) : Int32 := if what = 0 then nI (aN α 6 0) else if what = 1 then nI (nCell α) else if what = 2 then nI (nPort α) else if what = 3 then nI (aB α).length else if what = 4 then aI α 4 0 else if what = 5 then aI α 4 1 else if what = 6 then aI α 4 2 else if what = 7 then aI α 4 3 else if what = 8 then aI α 4 4
  else if 11 ≤ what ∧ what ≤ 16 then aI α 5 (what - 10).toNatClampNeg else -9
