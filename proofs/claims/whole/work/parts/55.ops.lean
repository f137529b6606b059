/-! ===== what each call does: answer and state ===== -/
abbrev cl (x : Int32) : Nat := x.toNatClampNeg
def bad (A : AS) : Int32 × AS := (-1000001, A)
def fnd (x : Int32) (A : AS) : Int32 × AS := match A with
  | (rw_, tp, fl, _, q) => (-1000010 - x, (rw_, tp, fl, x, q))
def fin (x : Int32) (A : AS) : Int32 × AS := match A with
  | (rw_, tp, fl, _, q) => (x, (rw_, tp, fl, 0, q))
def rwMake (r : RW) (k l n : Nat) : RW := (fun i => if i = k then some l else r.1 i, fun i => if i = k then n else r.2.1 i, fun i j => if i = k ∧ j < n then 0 else r.2.2 i j)
def rwDrop (r : RW) (k : Nat) : RW := (fun i => if i = k then none else r.1 i, r.2.1, r.2.2)
def rwPut (r : RW) (k i : Nat) (v : Int32) : RW := (r.1, r.2.1, fun a j => if a = k ∧ j = i then v else r.2.2 a j)
def rwCopy (r : RW) (a i b j n : Nat) : RW := (r.1, r.2.1, fun x k => if x = b ∧ j ≤ k ∧ k < j + n then r.2.2 a (i + (k - j)) else r.2.2 x k)
def cutL (o : Option Nat) (v : Int32) : Int32 := if o = some 0 then v.toInt8.toInt32 else if o = some 1 then v.toInt16.toInt32 else v
def oRow (r l n : Int32) (A : AS) : Int32 × AS := if inB r 8 = true ∧ inR l 0 2 = true ∧ n ≤ 40 then (if n < 0 then fnd 4 A else fin n (rwMake A.1 (cl r) (cl l) (cl n), A.2)) else bad A
def oSet (r i v : Int32) (A : AS) : Int32 × AS := if inB r 8 = true then (if fndC (A.1.1 (cl r)) (A.1.2.1 (cl r)) i 1 = 0 then fin (cutL (A.1.1 (cl r)) v) (rwPut A.1 (cl r) (cl i) (cutL (A.1.1 (cl r)) v), A.2) else fnd (fndC (A.1.1 (cl r)) (A.1.2.1 (cl r)) i 1) A) else bad A
def oCopy (a i b j n : Int32) (A : AS) : Int32 × AS := if inB a 8 = true ∧ inB b 8 = true then (if A.1.1 (cl a) = none ∨ A.1.1 (cl b) = none then fnd 1 A else if A.1.1 (cl a) = A.1.1 (cl b) then (if spanB i n (A.1.2.1 (cl a)) = true ∧ spanB j n (A.1.2.1 (cl b)) = true then fin n (rwCopy A.1 (cl a) (cl i) (cl b) (cl j) (cl n), A.2) else fnd 2 A) else fnd 5 A) else bad A
def oDrop (r : Int32) (A : AS) : Int32 × AS := if inB r 8 = true then (if A.1.1 (cl r) = none then fnd 1 A else fin (nI (A.1.2.1 (cl r))) (rwDrop A.1 (cl r), A.2)) else bad A
def oFeed (x : Int32) (A : AS) : Int32 × AS := match A with
  | (rw_, tp, q) => if inR x 0 255 = true then (if 120 ≤ tp.length then (-1000003, (rw_, tp, q)) else (nI (tp.length + 1), (rw_, tp ++ [cl x], q))) else bad (rw_, tp, q)
def oCounty (A : AS) : Int32 × AS := match A with
  | (rw_, tp, fl, st, hs, c, im, pa, tr) => if (rCty tp).1 = 0 then (nI (rCty tp).2.2.2.2.2.1, (rw_, [], fl, st, true, (rCty tp).2.2, im, [], tr)) else (-1000100 - nI (rCty tp).2.1, (rw_, [], (rCty tp).1, st, hs, c, im, pa, tr))
def oUndo (A : AS) : Int32 × AS := match A with
  | (rw_, tp, fl, st, hs, c, im, pa, tr) => match pa.getLast? with
    | none => (-1000002, (rw_, tp, fl, st, hs, c, im, pa, tr))
    | some c' => (nI (pa.length - 1), (rw_, tp, fl, st, hs, c', im, pa.dropLast, tr))
/-- the people of a state -/
def nPe (A : AS) : Nat := A.2.2.2.2.2.1.2.2.2.1
def pOf (A : AS) (i : Nat) : PT := A.2.2.2.2.2.1.2.2.2.2 i
def cUp (c : CY) (i : Nat) (p : PT) : CY := (c.1, c.2.1, c.2.2.1, c.2.2.2.1, fun j => if j = i then p else c.2.2.2.2 j)
/-- an act: what was is kept, the county is another -/
def actS (A : AS) (c' : CY) : AS := match A with
  | (rw_, tp, fl, st, hs, c, im, pa, tr) => (rw_, tp, fl, st, hs, c', im, keepP pa c, tr)
def ctyOf (A : AS) : CY := A.2.2.2.2.2.1
def lotsP (p : PT) : LT := p.2.2.2.2.2.2
def pLots (p : PT) (l : LT) : PT := (p.1, p.2.1, p.2.2.1, p.2.2.2.1, p.2.2.2.2.1, p.2.2.2.2.2.1, l)
def pOwe (p : PT) (o : Nat) : PT := (p.1, p.2.1, p.2.2.1, p.2.2.2.1, o, p.2.2.2.2.2.1, p.2.2.2.2.2.2)
def oSent (p n : Int32) (A : AS) : Int32 × AS := if inB p (nPe A) = true ∧ inR n 1 999 = true then (if 9999 < sumD (lotsP (pOf A (cl p))) + cl n then (-1000003, A) else (nI (sumD (lotsP (pOf A (cl p))) + cl n), actS A (cUp (ctyOf A) (cl p) (pLots (pOf A (cl p)) (pGain (cl n) (ctyOf A).2.2.1 (lotsP (pOf A (cl p)))))))) else bad A
def oDeed (p n : Int32) (A : AS) : Int32 × AS := if inB p (nPe A) = true ∧ inR n 1 999 = true then (nI (pCommit (cl n) (pOf A (cl p))).2.2.2.2.1, actS A (cUp (ctyOf A) (cl p) (pCommit (cl n) (pOf A (cl p))))) else bad A
def oSale (a b n m : Int32) (A : AS) : Int32 × AS := if saleB (nPe A) a b n m = true then (if refS (cl n) (pOf A (cl a)) (pOf A (cl b)) = 0 then (nI (sumD (lotsP (pOf A (cl b))) + cl n), actS A (cSell (cl a) (cl b) (cl n) m (ctyOf A))) else (refS (cl n) (pOf A (cl a)) (pOf A (cl b)), A)) else bad A
def oPays (p n : Int32) (A : AS) : Int32 × AS := if inB p (nPe A) = true ∧ inR n 1 999 = true then (if cl n ≤ sumD (lotsP (pOf A (cl p))) ∧ cl n ≤ (pOf A (cl p)).2.2.2.2.1 then (nI ((pOf A (cl p)).2.2.2.2.1 - cl n), actS A (cUp (ctyOf A) (cl p) (pOwe (pLots (pOf A (cl p)) (spend (isOfB (pOf A (cl p)).1 4) (cl n) (lotsP (pOf A (cl p)))).1) ((pOf A (cl p)).2.2.2.2.1 - cl n)))) else (-1000002, A)) else bad A
def pDead (p : PT) : PT := (p.1, p.2.1, p.2.2.1, 0, 0, p.2.2.2.2.2.1, [])
def pHeir (mo : Nat) (p h : PT) : PT := (h.1, h.2.1, h.2.2.1, h.2.2.2.1 + p.2.2.2.1, h.2.2.2.2.1, h.2.2.2.2.2.1, gainAll mo (lotsP p) (lotsP h) (lotsP p).length)
def oDies (p h : Int32) (A : AS) : Int32 × AS := if inB p (nPe A) = true ∧ inB h (nPe A) = true ∧ p ≠ h then (if 9999 < sumD (lotsP (pOf A (cl p))) + sumD (lotsP (pOf A (cl h))) then (-1000003, A) else (nI (sumD (lotsP (pOf A (cl p))) + sumD (lotsP (pOf A (cl h)))), actS A (cUp (cUp (ctyOf A) (cl h) (pHeir (ctyOf A).2.2.1 (pOf A (cl p)) (pOf A (cl h)))) (cl p) (pDead (pOf A (cl p)))))) else bad A
def oPardon (p : Int32) (A : AS) : Int32 × AS := if inB p (nPe A) = true then (nI (pOf A (cl p)).2.2.2.2.1, actS A (cUp (ctyOf A) (cl p) (pOwe (pOf A (cl p)) 0))) else bad A
def hasC (A : AS) : Bool := A.2.2.2.2.1
def oMonth (x : Int32) (A : AS) : Int32 × AS := if hasC A = true then (if inR x 1 999999 = true then (if 999 ≤ (ctyOf A).2.2.1 then (-1000003, A) else (nI (mths (ctyOf A) (cl x) 1).2.2, actS A (mths (ctyOf A) (cl x) 1).1)) else bad A) else (-1000002, A)
def oPerson (p w : Int32) (A : AS) : Int32 × AS := if inB p (nPe A) = true then (if inR w 0 3 = true then amt (pOf A (cl p)) (cl w) else if w = 4 then nI (pOf A (cl p)).2.1 else if w = 5 then nI (pOf A (cl p)).2.2.1 else if w = 6 then nI (lotsP (pOf A (cl p))).length else -1000001, A) else bad A
def oLot (p l w : Int32) (A : AS) : Int32 × AS := if inB p (nPe A) = true ∧ inR w 0 1 = true ∧ inB l (lotsP (pOf A (cl p))).length = true then (if w = 0 then nI (lt_d (lotsP (pOf A (cl p))) (cl l)) else nI (lt_m (lotsP (pOf A (cl p))) (cl l)), A) else bad A
def oAhead (p n x w : Int32) (A : AS) : Int32 × AS := if inB p (nPe A) = true ∧ inR n 0 60 = true ∧ inR x 1 999999 = true ∧ inR w 0 3 = true then (amt ((mths (ctyOf A) (cl x) (cl n)).1.2.2.2.2 (cl p)) (cl w), A) else bad A
def oLapsed (p n : Int32) (A : AS) : Int32 × AS := if inB p (nPe A) = true ∧ inR n 0 60 = true then (nI (lapS (pOf A (cl p)).1 (lotsP (pOf A (cl p))) (nI (ctyOf A).2.2.1 + n - 1) (nI (ctyOf A).1) (lotsP (pOf A (cl p))).length), A) else bad A
def cLose (c : CY) : CY := (c.1, c.2.1, c.2.2.1, c.2.2.2.1, fun i => pLose (c.2.2.2.2 i))
def owedA (c : CY) : Nat := sumN (fun i => (c.2.2.2.2 i).2.2.2.2.1) c.2.2.2.1
def oTried (n x w : Int32) (A : AS) : Int32 × AS := if hasC A = true then (if inR n 0 60 = true ∧ inR x 1 999999 = true ∧ inR w 0 1 = true then (if w = 0 then nI (mths (cLose (ctyOf A)) (cl x) (cl n)).2.2 else nI (owedA (mths (cLose (ctyOf A)) (cl x) (cl n)).1) - nI (owedA (ctyOf A)), A) else bad A) else (-1000002, A)
def oMarket (p w : Int32) (A : AS) : Int32 × AS := if hasC A = true then (if inR p 0 99 = true ∧ inR w 0 1 = true then (if w = 0 then nI (supply (ctyOf A) (cl p)) else nI (demand (ctyOf A) (cl p)), A) else bad A) else (-1000002, A)
def oRest (w : Int32) (A : AS) : Int32 × AS := if hasC A = true then (if inR w 0 2 = true then (match rest (ctyOf A) 100 0 with
    | none => -1000000
    | some pr => if w = 0 then nI pr else if w = 1 then bitsI (fun i => decide (0 < offer pr (pOf A i))) (nPe A) else bitsI (fun i => decide (0 < want pr (pOf A i))) (nPe A), A) else bad A) else (-1000002, A)
def oImage (k : Int32) (A : AS) : Int32 × AS := match A with
  | (rw_, tp, fl, st, hs, c, im, pa, tr) => if inR k 0 1 = true then (if hs = true then (1, (rw_, tp, fl, st, hs, c, fun j => if j = cl k then some c else im j, pa, tr)) else (-1000002, (rw_, tp, fl, st, hs, c, im, pa, tr))) else bad (rw_, tp, fl, st, hs, c, im, pa, tr)
def oRestore (k : Int32) (A : AS) : Int32 × AS := match A with
  | (rw_, tp, fl, st, hs, c, im, pa, tr) => if inR k 0 1 = true then (match im (cl k) with
    | some c' => (1, (rw_, tp, fl, st, hs, c', im, [], tr))
    | none => (-1000002, (rw_, tp, fl, st, hs, c, im, pa, tr))) else bad (rw_, tp, fl, st, hs, c, im, pa, tr)
def oKind (p : Int32) (A : AS) : Int32 × AS := if inB p (nPe A) = true then (nI (pOf A (cl p)).1, A) else bad A
def oAs (p k : Int32) (A : AS) : Int32 × AS := if inB p (nPe A) = true ∧ inR k 0 5 = true then (if isOfB (pOf A (cl p)).1 (cl k) = true then fin p A else fnd 3 A) else bad A
def oTrace (i : Int32) (A : AS) : Int32 × AS := match A with
  | (rw_, tp, fl, st, hs, c, im, pa, tr) => (if inB i tr.length = true then nI (tr.getD (cl i) 0) else -1000000, (rw_, tp, fl, st, hs, c, im, pa, tr))
def oCount (w : Int32) (A : AS) : Int32 × AS := match A with
  | (rw_, tp, fl, st, hs, c, im, pa, tr) => (if w = 0 then nI (sumN (fun i => if rw_.1 i = none then 0 else 1) 8) else if w = 1 then nI c.2.2.2.1 else if w = 2 then nI c.2.2.1 else if w = 3 then nI (sumN (fun i => sumD (c.2.2.2.2 i).2.2.2.2.2.2) c.2.2.2.1) else if w = 4 then nI (owedA c) else if w = 5 then nI pa.length else if w = 6 then nI tp.length else -1000001, (rw_, tp, fl, st, hs, c, im, pa, tr))
/-! what holds at all times -/
def ptF (t m : Nat) (p : PT) : Prop := p.1 ≠ 3 → ∀ q, q ∈ p.2.2.2.2.2.2 → m ≤ q.2 + t
def cyF (c : CY) : Prop := ∀ i, i < c.2.2.2.1 → ptF c.1 c.2.2.1 (c.2.2.2.2 i)
def cyG (c : CY) : Prop := cyGd 9999 c ∧ cyF c ∧ c.2.2.1 ≤ 999
def Gd (A : AS) : Prop := rwOk A.1 ∧ cyG A.2.2.2.2.2.1 ∧ (A.2.2.2.2.1 = false → A.2.2.2.2.2.1.2.2.2.1 = 0) ∧ (∀ k c', A.2.2.2.2.2.2.1 k = some c' → cyG c' ∧ A.2.2.2.2.1 = true) ∧ ∀ c', c' ∈ A.2.2.2.2.2.2.2.1 → cyG c' ∧ stE A.2.2.2.2.2.1 c'
