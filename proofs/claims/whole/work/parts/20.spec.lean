abbrev Tb : Type := Nat → Nat → Int32
abbrev Lw : Type := Nat → Nat → List Int32
/-- bit a of x; the set of a -/
def bitS (x a : Int32) : Int32 := x >>> (a &&& 31) &&& 1
def oneS (a : Int32) : Int32 := 1 <<< (a &&& 31)
def holdS (x a : Int32) : Int32 := if bitS x a = 1 then 1 else 0
def remS (x y : Int32) : Int32 := x - x / y * y
def modS (x y : Int32) : Int32 := if remS x y < 0 then remS x y + y else remS x y
def min99 (v : Int32) : Int32 := if v ≤ 99 then v else 99
def clampS (lo v : Int32) : Int32 := if v < lo then lo else if 99 < v then 99 else v
/-- how many of the first k bits -/
def onesK (x : Int32) : Nat → Int32
  | 0 => 0
  | k + 1 => onesK x k + bitS x (nI k)
def onesS (x : Int32) : Int32 := onesK x 10
/-- a name's value, of a guest's row g at a minute mn -/
def nameS (g : Nat → Int32) (mn c : Int32) : Int32 := if c = -1 then g 3 else if c = -2 then g 4 else if c = -3 then g 5 else if c = -4 then mn else if c = -5 then onesS (g 2) else g 1
def joinS (c l r : Int32) : Int32 := if c = -7 then (if l ≠ 0 ∨ r ≠ 0 then 1 else 0) else if c = -8 then (if l ≠ 0 ∧ r ≠ 0 then 1 else 0) else if c = -13 then (if l < r then 1 else 0) else if c = -14 then (if l = r then 1 else 0) else if c = -15 then l + r else if c = -16 then l - r else l * r
/-- a text's code, run: the waiting numbers, the last first -/
def stepS (g : Nat → Int32) (mn : Int32) (st : List Int32) (c : Int32) : List Int32 :=
  if 0 ≤ c then c :: st
  else if -6 ≤ c then nameS g mn c :: st
  else if c = -9 then (if st.headD 0 = 0 then 1 else 0) :: st.tail
  else if c = -18 then (-(st.headD 0)) :: st.tail
  else joinS c (st.tail.headD 0) (st.headD 0) :: st.tail.tail
def evalS (L : List Int32) (g : Nat → Int32) (mn : Int32) : Int32 := (L.foldl (stepS g mn) []).headD 0
def saysG (L : List Int32) (pt : Nat) (g : Nat → Int32) (mn : Int32) : Int32 := clampS (if pt = 2 then -99 else 0) (evalS L g mn)
def saysS (Lx : Lw) (T : Tb) (pt q : Nat) : Int32 := saysG (Lx (T 6 3).toNatClampNeg pt) pt (T q) (T 6 2)
/-- how many wait behind a step; a code that is well made -/
def depS (h : Nat) (c : Int32) : Option Nat := if -6 ≤ c then (if h < 60 then some (h + 1) else none) else if c = -9 ∨ c = -18 then (if 1 ≤ h then some h else none) else if 2 ≤ h then some (h - 1) else none
def runD : List Int32 → Nat → Option Nat
  | [], h => some h
  | c :: L, h => (depS h c).bind (runD L)
/-- guests -/
def bredS (g : Nat → Int32) (tm : Int32) : Int32 := if tm = 0 then g 2 ||| oneS (g 1) else 1023
def hungS (g : Nat → Int32) (tm : Int32) : Int32 := if tm = 0 then 0 else g 2
def timS (Lx : Lw) (T : Tb) (q : Nat) : Int32 := if saysS Lx T 0 q < T q 3 then 1 else 0
def mindS (Lx : Lw) (T : Tb) (q : Nat) : Int32 :=
  if T q 0 = 1 then bredS (T q) (timS Lx T q)
  else if T q 0 = 2 then hungS (T q) (timS Lx T q)
  else if T q 0 = 3 then bredS (T q) (timS Lx T q) &&& (if remS (T 6 2) 2 = 0 then 341 else 682)
  else if T q 0 = 4 then (if T 6 2 < T q 1 then hungS (T q) (timS Lx T q) else 0)
  else if T q 0 = 5 then 1023
  else if timS Lx T q = 0 then T q 2 else 1023
/-- the first of the ACTS from a on (f of them) that isn't in m -/
def firstS (m : Int32) : Nat → Nat → Int32
  | 0, _ => -1
  | f + 1, a => if bitS m (nI a) = 1 then firstS m f (a + 1) else nI a
def actS (Lx : Lw) (T : Tb) (q : Nat) : Int32 := if T q 6 = 0 then firstS (mindS Lx T q) 10 0 else 0
def stuckS (Lx : Lw) (T : Tb) (q : Nat) : Int32 := if T q 6 = 0 then (if mindS Lx T q = 1023 then 1 else 0) else 0
def eatS (Lx : Lw) (T : Tb) (q : Nat) (a : Int32) : Int32 :=
  if T q 0 = 1 ∨ T q 0 = 3 then saysS Lx T 1 q / 2 else if T q 0 = 2 ∨ T q 0 = 4 then saysS Lx T 1 q + a else if T q 0 = 5 then 0 else saysS Lx T 1 q
def onS (Lx : Lw) (T : Tb) (q : Nat) : Int32 := if T q 0 = 3 then -(saysS Lx T 2 q) else if T q 0 = 4 then saysS Lx T 2 q + T q 1 else saysS Lx T 2 q
def tellS (Lx : Lw) (T : Tb) (q : Nat) : Int32 := modS (nI q + onS Lx T q) (T 6 1)
/-- one does act a; e is eaten, h is told -/
def doneS (T : Tb) (q h : Nat) (e a : Int32) : Tb :=
  let T1 := upT T q 5 (min99 (T q 5 + e))
  let T2 := upT T1 q 2 (T1 q 2 ||| oneS a)
  let T3 := if h = q then T2 else upT T2 h 2 (T2 h 2 ^^^ oneS a)
  upT T3 q 6 0
def performS (Lx : Lw) (T : Tb) (q : Nat) (a : Int32) : Tb := doneS T q (tellS Lx T q).toNatClampNeg (eatS Lx T q a) a
def oneStep (Lx : Lw) (r : Tb × Int32) (q : Nat) : Tb × Int32 := if actS Lx r.1 q = -1 then (upT r.1 q 4 (min99 (r.1 q 4 + 1)), r.2) else (performS Lx r.1 q (actS Lx r.1 q), r.2 + 1)
def passK (Lx : Lw) (T : Tb) : Nat → Tb × Int32
  | 0 => (T, 0)
  | k + 1 => oneStep Lx (passK Lx T k) k
def seatsN (T : Tb) : Nat := (T 6 1).toNatClampNeg
def passS (Lx : Lw) (T : Tb) : Tb × Int32 := (upT (passK Lx T (seatsN T)).1 6 2 (T 6 2 + 1), (passK Lx T (seatsN T)).2)
def passN (Lx : Lw) (T : Tb) : Nat → Tb × Int32
  | 0 => (T, 0)
  | k + 1 => ((passS Lx (passN Lx T k).1).1, (passN Lx T k).2 + (passS Lx (passN Lx T k).1).2)
def stuckK (Lx : Lw) (T : Tb) : Nat → Int32
  | 0 => 0
  | k + 1 => if stuckS Lx T k = 0 then stuckK Lx T k else stuckK Lx T k ||| oneS (nI k)
def stuckBS (Lx : Lw) (T : Tb) : Int32 := stuckK Lx T (seatsN T)
def dangerK (T : Tb) : Nat → Int32
  | 0 => 0
  | k + 1 => if T k 6 = 0 then dangerK T k else dangerK T k ||| oneS (nI k)
def anyK (Lx : Lw) (T : Tb) : Nat → Int32
  | 0 => 0
  | k + 1 => anyK Lx T k ||| (1023 &&& (mindS Lx T k ^^^ -1))
def allK (Lx : Lw) (T : Tb) : Nat → Int32
  | 0 => 1023
  | k + 1 => allK Lx T k &&& (mindS Lx T k ^^^ -1)
def ateK (T : Tb) : Nat → Int32
  | 0 => 0
  | k + 1 => ateK T k + T k 5
def boredK (T : Tb) : Nat → Int32
  | 0 => 0
  | k + 1 => boredK T k + T k 4
def ateS (T : Tb) : Int32 := ateK T (seatsN T)
def boredS (T : Tb) : Int32 := boredK T (seatsN T)
/-- act a made right for the first k -/
def rightK (T : Tb) (a : Int32) : Nat → Tb
  | 0 => T
  | k + 1 => upT (rightK T a k) k 2 (rightK T a k k 2 &&& (oneS a ^^^ -1))
def swapS (T : Tb) (a b : Nat) : Tb := upT (upT T a 2 (T b 2)) b 2 (T a 2)
