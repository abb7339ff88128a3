/-! ===== what each call answers ===== -/
def oneP (T : Tb) (p : Int32) : Int32 := if p < 0 then 0 else if T 6 1 ≤ p then 0 else 1
def runP (v : Int32) : Int32 := if v < 0 then 0 else if 40 < v then 0 else 1
def choP (v : Int32) : Int32 := if v = 0 then 1 else if v = 1 then 1 else 0
def seedP (v : Int32) : Int32 := if v < 0 then 0 else if 100000 ≤ v then 0 else 1
def shP (v : Int32) : Int32 := if v < 0 then 0 else if 4 ≤ v then 0 else 1
def mostP (v : Int32) : Int32 := if v = 0 then 1023 else if v = 4 then 1 else 99
def iN (p : Int32) : Nat := p.toNatClampNeg
theorem iN_nI {k : Nat} (h : k < 2 ^ 31) : iN (nI k) = k := nI_clamp h
theorem one_nat {n : Nat} {T : Tb} {p : Int32} (hT : okT n T) (h : ¬ oneP T p = 0) : ∃ q, q < seatsN T ∧ p = nI q := by
  unfold oneP at h
  by_cases h0 : p < 0
  · rw [if_pos h0] at h; exact absurd rfl h
  · rw [if_neg h0] at h
    by_cases h1 : T 6 1 ≤ p
    · rw [if_pos h1] at h; exact absurd rfl h
    · obtain ⟨j, hj, rfl⟩ := nI_of h0
      rw [hT.2.1] at h1
      exact ⟨j, mi_nle h1 (by have := hT.1; omega) hj, rfl⟩
theorem one_at {n : Nat} {T : Tb} {q : Nat} (hT : okT n T) (hq : q < seatsN T) : oneP T (nI q) = 1 := seat_1 hT hq
theorem run_nat {v : Int32} (h : ¬ runP v = 0) : ∃ w, w ≤ 40 ∧ v = nI w := by
  unfold runP at h
  by_cases h0 : v < 0
  · rw [if_pos h0] at h; exact absurd rfl h
  · rw [if_neg h0] at h
    by_cases h1 : 40 < v
    · rw [if_pos h1] at h; exact absurd rfl h
    · exact nI_of2 rfl h0 (by rw [i32_le]; exact h1)
theorem cho_two {v : Int32} (h : ¬ choP v = 0) : v = 0 ∨ v = 1 := by
  unfold choP at h
  by_cases h0 : v = 0
  · exact Or.inl h0
  · rw [if_neg h0] at h
    by_cases h1 : v = 1
    · exact Or.inr h1
    · rw [if_neg h1] at h; exact absurd rfl h
theorem sh_nat {v : Int32} (h : ¬ shP v = 0) : ∃ w, w < 4 ∧ v = nI w := by
  unfold shP at h
  by_cases h0 : v < 0
  · rw [if_pos h0] at h; exact absurd rfl h
  · rw [if_neg h0] at h
    by_cases h1 : 4 ≤ v
    · rw [if_pos h1] at h; exact absurd rfl h
    · obtain ⟨j, hj, rfl⟩ := nI_of h0
      exact ⟨j, mi_nle (a := 4) h1 (by decide) hj, rfl⟩
def countP (Lx : Lw) (T : Tb) (tc ts w : Int32) : Int32 := if w = 0 then T 6 1 else if w = 1 then T 6 2 else if w = 2 then onesS (stuckBS Lx T) else if w = 3 then tc else if w = 4 then T 6 3 else if w = 5 then ts else -2
def clockP (T : Tb) (v : Int32) : Int32 × Tb := if v < 0 then (-2, T) else if 999 < v then (-2, T) else (T 6 2, upT T 6 2 v)
def forceP (tc : Int32) (T : Tb) (t : Int32) : Int32 × Tb := if t < 0 then (-2, T) else if t < tc then (T 6 3, upT T 6 3 t) else (-2, T)
def asksP (Lx : Lw) (T : Tb) (a p : Int32) : Int32 := if a < 0 then -1000 else if 3 ≤ a then -1000 else if oneP T p = 0 then -1000 else saysS Lx T (iN a) (iN p)
def newG (T : Tb) (km w sh : Int32) : Tb := upT (va_up T (seatsN T) (comeR (T (seatsN T)) km w sh)) 6 1 (T 6 1 + 1)
def guestP (T : Tb) (km w sh : Int32) : Int32 × Tb := if km < 0 then (-2, T) else if 60 ≤ km then (-2, T) else if w < 0 then (-2, T) else if 1023 < w then (-2, T) else if sh < 0 then (-2, T) else if 99 < sh then (-2, T) else if T 6 1 < 6 then (T 6 1 + 1 - 1, newG T km w sh) else (-4, T)
def putP (T : Tb) (p w v : Int32) : Int32 × Tb := if oneP T p = 0 then (-5, T) else if w < 0 then (-7, T) else if 4 < w then (-7, T) else if v < 0 then (-7, T) else if mostP w < v then (-7, T) else (stateS (T (iN p)) w, va_up T (iN p) (setR (T (iN p)) w v))
def toldP (Lx : Lw) (T : Tb) (p w : Int32) : Int32 := if oneP T p = 0 then -5 else if w = 0 then stateS (T (iN p)) w else if w = 1 then stateS (T (iN p)) w else if w = 2 then stateS (T (iN p)) w else if w = 3 then stateS (T (iN p)) w else if w = 4 then stateS (T (iN p)) w else if w = 5 then T (iN p) 0 else if w = 6 then T (iN p) 1 else if w = 7 then actS Lx T (iN p) else if w = 8 then (if stuckS Lx T (iN p) = 0 then 0 else 1) else if w = 9 then tellS Lx T (iN p) else -7
def mannersP (Lx : Lw) (T : Tb) (p a w : Int32) : Int32 := if oneP T p = 0 then -5 else if a < 0 then -6 else if 10 ≤ a then -6 else if w = 0 then (if holdS (mindS Lx T (iN p)) a = 0 then 1 else 0) else if w = 1 then eatS Lx T (iN p) a else -7
def dinnerP (Lx : Lw) (T : Tb) (w : Int32) : Int32 := if w = 0 then stuckBS Lx T else if w = 1 then dangerK T (seatsN T) else if w = 2 then anyK Lx T (seatsN T) else if w = 3 then allK Lx T (seatsN T) else if w = 4 then ateS T else -2
def minuteP (Lx : Lw) (T : Tb) : Int32 × Tb := if T 6 2 < 999 then ((passS Lx T).2, (passS Lx T).1) else (-3, T)
def actP (Lx : Lw) (T : Tb) (p : Int32) : Int32 × Tb := if oneP T p = 0 then (-5, T) else if actS Lx T (iN p) = -1 then (-3, T) else (actS Lx T (iN p), performS Lx T (iN p) (actS Lx T (iN p)))
def swapP (T : Tb) (a b : Int32) : Int32 × Tb := if oneP T a = 0 then (-5, T) else if oneP T b = 0 then (-5, T) else if a = b then (-5, T) else (swapS T (iN a) (iN b) (iN a) 2, swapS T (iN a) (iN b))
def allW (w : Int32) : Int32 := if w < 0 then 0 else if 2 < w then 0 else 1
def oneW (T : Tb) (w : Int32) : Int32 := if w < 10 then 0 else if 40 ≤ w then 0 else oneP T (remS w 10)
def runA (Lx : Lw) (T : Tb) (k : Nat) (w : Int32) : Int32 :=
  if oneW T w = 0 then (if w = 0 then stuckBS Lx (passN Lx T k).1 else if w = 1 then (passN Lx T k).2 else ateS (passN Lx T k).1)
  else if w < 20 then (passN Lx T k).1 (iN (remS w 10)) 2 else if w < 30 then (passN Lx T k).1 (iN (remS w 10)) 5 else (passN Lx T k).1 (iN (remS w 10)) 4
def runS (Lx : Lw) (T : Tb) (v w : Int32) : Int32 := if runP v = 0 then -2 else if allW w = 0 then (if oneW T w = 0 then -2 else runA Lx T (iN v) w) else runA Lx T (iN v) w
/-- is it so, who are stuck being st, of g guests -/
def isW (st : Int32) (g : Int32) (w : Int32) : Int32 := if w < 6 then holdS st w else if w = 6 then (if st = oneS g - 1 then 1 else 0) else (if st = 0 then 1 else 0)
def whenF (Lx : Lw) (T : Tb) (w : Int32) : Nat → Nat → Int32
  | 0, _ => -1
  | f + 1, m => if isW (stuckBS Lx (passN Lx T m).1) (T 6 1) w = 0 then whenF Lx T w f (m + 1) else nI m
def whenP (Lx : Lw) (T : Tb) (w : Int32) : Int32 := if w < 0 then -5 else if 7 < w then -5 else if w < 6 then (if oneP T w = 0 then -5 else whenF Lx T w 61 0) else whenF Lx T w 61 0
def pickS (w best few : Int32) : Int32 := if w = 0 then best else few
/-- how many are stuck behind k minutes; what all ate -/
def behS (Lx : Lw) (T : Tb) (k : Nat) : Int32 := onesS (stuckBS Lx (passN Lx T k).1)
def behA (Lx : Lw) (T : Tb) (k : Nat) : Int32 := ateS (passN Lx T k).1
def lessS (r : Int32 × Int32) (i v : Int32) : Int32 × Int32 := if v < r.2 then (i, v) else r
def moreS (r : Int32 × Int32) (i v : Int32) : Int32 × Int32 := if r.2 < v then (i, v) else r
def pokeK (Lx : Lw) (T : Tb) (k : Nat) : Nat → Int32 × Int32
  | 0 => (-1, behS Lx T k)
  | a + 1 => lessS (pokeK Lx T k a) (nI a) (behS Lx (rightK T (nI a) (seatsN T)) k)
def pokerP (Lx : Lw) (T : Tb) (v w : Int32) : Int32 := if runP v = 0 then -2 else if choP w = 0 then -2 else pickS w (pokeK Lx T (iN v) 10).1 (pokeK Lx T (iN v) 10).2
/-- sets that are tried to be forgiven: the best one, of how many (11: none) -/
def forgK (Lx : Lw) (T : Tb) (q : Nat) : Nat → Int32 × Int32
  | 0 => (-1, 11)
  | k + 1 => if nI k &&& T q 2 = nI k then (if onesS (nI k) < (forgK Lx T q k).2 then (if stuckS Lx (upT T q 2 (T q 2 ^^^ nI k)) q = 0 then (nI k, onesS (nI k)) else forgK Lx T q k) else forgK Lx T q k) else forgK Lx T q k
def forgiveP (Lx : Lw) (T : Tb) (p w : Int32) : Int32 := if oneP T p = 0 then -5 else if choP w = 0 then -7 else if w = 0 then (forgK Lx T (iN p) 1024).1 else if (forgK Lx T (iN p) 1024).1 = -1 then -1 else (forgK Lx T (iN p) 1024).2
def alarK (Lx : Lw) (T : Tb) (k : Nat) : Nat → Int32 × Int32
  | 0 => (-1, behA Lx T k)
  | q + 1 => if T q 6 = 0 then moreS (alarK Lx T k q) (nI q) (behA Lx (upT T q 6 1) k) else alarK Lx T k q
def alarmP (Lx : Lw) (T : Tb) (v w : Int32) : Int32 := if runP v = 0 then -2 else if choP w = 0 then -2 else pickS w (alarK Lx T (iN v) (seatsN T)).1 (alarK Lx T (iN v) (seatsN T)).2
/-- pairs a < b: for a, the b's from a + 1 on (j of them) -/
def chaJ (Lx : Lw) (T : Tb) (k a : Nat) (r : Int32 × Int32) : Nat → Int32 × Int32
  | 0 => r
  | j + 1 => lessS (chaJ Lx T k a r j) (10 * nI a + nI (a + 1 + j)) (behS Lx (swapS T a (a + 1 + j)) k)
def chaK (Lx : Lw) (T : Tb) (k : Nat) : Nat → Int32 × Int32
  | 0 => (-1, behS Lx T k)
  | a + 1 => chaJ Lx T k a (chaK Lx T k a) (seatsN T - (a + 1))
def changeP (Lx : Lw) (T : Tb) (v w : Int32) : Int32 := if runP v = 0 then -2 else if choP w = 0 then -2 else pickS w (chaK Lx T (iN v) (seatsN T)).1 (chaK Lx T (iN v) (seatsN T)).2
/-- the greatest SHY below k by which q isn't stuck -/
def boldK (Lx : Lw) (T : Tb) (q : Nat) : Nat → Int32
  | 0 => -1
  | k + 1 => if stuckS Lx (upT T q 3 (nI k)) q = 0 then nI k else boldK Lx T q k
def boldP (Lx : Lw) (T : Tb) (p : Int32) : Int32 := if oneP T p = 0 then -5 else boldK Lx T (iN p) 100
