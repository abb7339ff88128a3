/-! ===== the reader, pure ===== -/
def lstR (g : Nat → Int32) (L : List Int32) : Nat → Int32 := fun j => if j < L.length then L.getD j 0 else g j
/-- what the reader holds when L is written -/
def rdS (σ : Nat → Nat → Int32) (L : List Int32) : Nat → Nat → Int32 := upR (va_up σ 4 (lstR (σ 4) L)) 3 3 (nI L.length)
def wriL (L : List Int32) (c : Int32) : List Int32 := if L.length < 160 then L ++ [c] else L
theorem lstR_snoc (g : Nat → Int32) (L : List Int32) (c : Int32) : upd (lstR g L) L.length c = lstR g (L ++ [c]) := by
  funext j
  unfold lstR
  by_cases h : j = L.length
  · subst h; rw [pk_us, if_pos (by simp)]; simp
  · rw [pk_un h]
    by_cases h2 : j < L.length
    · rw [if_pos h2, if_pos (by simp; omega)]; simp only [List.getD_eq_getElem?_getD, List.getElem?_append_left h2]
    · rw [if_neg h2, if_neg (by simp; omega)]
theorem wriL_le {L : List Int32} (h : L.length ≤ 160) (c : Int32) : (wriL L c).length ≤ 160 := by
  unfold wriL
  by_cases h1 : L.length < 160
  · rw [if_pos h1, List.length_append]; exact h1
  · rw [if_neg h1]; exact h
theorem rdS_len (σ : Nat → Nat → Int32) (L : List Int32) : rdS σ L 3 3 = nI L.length := by
  unfold rdS; rw [upR_self]; exact pk_us
theorem wri_rd (σ : Nat → Nat → Int32) {L : List Int32} (h : L.length ≤ 160) (c : Int32) : wriS (rdS σ L) c = rdS σ (wriL L c) := by
  unfold wriS wriL
  rw [rdS_len, if_neg (nI_pos (by omega))]
  by_cases h1 : L.length < 160
  · rw [if_neg (fun q => by have := mi_le (a := 160) (b := L.length) q (by decide) (by omega); omega), if_pos h1, iN_nI (by omega), nI_1]
    unfold rdS
    funext o j
    by_cases h3 : o = 3
    · subst h3
      rw [upR_self, upR_self]
      have e1 : ∀ v, upR (upR (va_up σ 4 (lstR (σ 4) L)) 3 3 v) 4 L.length c 3 = upd (σ 3) 3 v := fun v => by
        unfold upR
        rw [va_up_ne _ _ (by decide), va_up_self, va_up_ne _ _ (by decide)]
      rw [e1, va_up_ne _ _ (by decide), up_dup, List.length_append]; rfl
    · have e2 : ∀ (g : Nat → Nat → Int32) v, upR g 3 3 v o = g o := fun g v => va_up_ne _ _ h3
      rw [e2, e2]
      by_cases h4 : o = 4
      · subst h4
        have e3 : ∀ v, upR (va_up σ 4 (lstR (σ 4) L)) 3 3 v 4 = lstR (σ 4) L := fun v => by
          unfold upR; rw [va_up_ne _ _ (by decide), va_up_self]
        rw [upR_self, e3, lstR_snoc, va_up_self]
      · have e4 : ∀ (g : Nat → Nat → Int32) k v, upR g 4 k v o = g o := fun g k v => va_up_ne _ _ h4
        rw [e4, e2, va_up_ne _ _ h4, va_up_ne _ _ h4]
  · have he : L.length = 160 := by omega
    rw [he, if_pos (show (160 : Int32) ≤ nI 160 by decide), if_neg (by decide)]
/-- the tape's place and what is written: at, token, tokenAt, number, written -/
abbrev Rs : Type := Nat × Int32 × Nat × Int32 × List Int32
abbrev Rf : Type := Rs → Bool × Rs
def nxR (β : Nat → Int32) (z : Nat) (s : Rs) : Rs := (nxA β z (skpG β z 161 s.1), nxK β z (skpG β z 161 s.1), skpG β z 161 s.1, nxM β z (skpG β z 161 s.1) s.2.2.2.1, s.2.2.2.2)
def wrR (c : Int32) (s : Rs) : Rs := (s.1, s.2.1, s.2.2.1, s.2.2.2.1, wriL s.2.2.2.2 c)
/-- a row of likes, parted by an operation: w of them at most -/
def rowR (β : Nat → Int32) (z : Nat) (f : Rf) (op : Int32 → Option Int32) : Nat → Bool × Rs → Bool × Rs
  | 0, r => r
  | w + 1, r => if r.1 then (match op r.2.2.1 with
      | some c => rowR β z f op w ((f (nxR β z r.2)).1, wrR c (f (nxR β z r.2)).2)
      | none => r) else r
def isOp (k c : Int32) : Int32 → Option Int32 := fun x => if x = k then some c else none
def sumOp : Int32 → Option Int32 := fun x => if x = 43 then some (-15) else if x = 45 then some (-16) else none
def tokR (β : Nat → Int32) (z : Nat) (v : Int32) (s : Rs) : Bool × Rs := if s.2.1 = v then (true, nxR β z s) else (false, s)
/-- lower: one, not, or, by which what is opened goes on -/
abbrev Rlo : Type := Option (Rf × Rf × Rf)
def oneR (β : Nat → Int32) (z : Nat) (lo : Rlo) : Rf := fun s =>
  if s.2.1 = 2 ∨ (s.2.1 ≤ -1 ∧ -6 ≤ s.2.1) then (true, nxR β z (wrR (if s.2.1 = 2 then s.2.2.2.1 else s.2.1) s))
  else match lo with
    | none => (false, s)
    | some d => if s.2.1 = 40 then (if (d.2.2 (nxR β z s)).1 then tokR β z 41 (d.2.2 (nxR β z s)).2 else d.2.2 (nxR β z s))
      else if s.2.1 = 45 then ((d.1 (nxR β z s)).1, wrR (-18) (d.1 (nxR β z s)).2) else (false, s)
def termR (β : Nat → Int32) (z : Nat) (lo : Rlo) : Rf := fun s => rowR β z (oneR β z lo) (isOp 42 (-17)) 160 (oneR β z lo s)
def sumR (β : Nat → Int32) (z : Nat) (lo : Rlo) : Rf := fun s => rowR β z (termR β z lo) sumOp 160 (termR β z lo s)
def notR (β : Nat → Int32) (z : Nat) (lo : Rlo) : Rf := fun s =>
  if s.2.1 = -9 then (match lo with
    | none => (false, s)
    | some d => ((d.2.1 (nxR β z s)).1, wrR (-9) (d.2.1 (nxR β z s)).2))
  else if (sumR β z lo s).1 ∧ ((sumR β z lo s).2.2.1 = 60 ∨ (sumR β z lo s).2.2.1 = 61) then
    ((sumR β z lo (nxR β z (sumR β z lo s).2)).1, wrR (if (sumR β z lo s).2.2.1 = 60 then -13 else -14) (sumR β z lo (nxR β z (sumR β z lo s).2)).2)
  else sumR β z lo s
def andR (β : Nat → Int32) (z : Nat) (lo : Rlo) : Rf := fun s => rowR β z (notR β z lo) (isOp (-8) (-8)) 160 (notR β z lo s)
def orR (β : Nat → Int32) (z : Nat) (lo : Rlo) : Rf := fun s => rowR β z (andR β z lo) (isOp (-7) (-7)) 160 (andR β z lo s)
def loR (β : Nat → Int32) (z : Nat) : Nat → Rlo
  | 0 => none
  | d + 1 => some (oneR β z (loR β z d), notR β z (loR β z d), orR β z (loR β z d))
/-- the memory of such a record -/
def rsS (σ : Nat → Nat → Int32) (s : Rs) : Nat → Nat → Int32 := tpS (rdS σ s.2.2.2.2) (nI s.1) s.2.1 (nI s.2.2.1) s.2.2.2.1
def okR (z : Nat) (s : Rs) : Prop := s.1 ≤ z ∧ s.2.2.2.2.length ≤ 160
theorem tp_ne {σ : Nat → Nat → Int32} {a k t m : Int32} {o : Nat} (h : o ≠ 1) : tpS σ a k t m o = σ o := va_up_ne _ _ h
theorem tp_row {σ : Nat → Nat → Int32} {a k t m v : Int32} {o j : Nat} (h : o ≠ 1) : upR (tpS σ a k t m) o j v = tpS (upR σ o j v) a k t m := by
  funext q
  by_cases h1 : q = 1
  · subst h1
    unfold upR tpS
    rw [va_up_ne _ _ (Ne.symm h), va_up_self, va_up_self, va_up_ne _ _ (Ne.symm h)]
  · rw [tp_ne h1]
    unfold upR
    by_cases h2 : q = o
    · subst h2; rw [va_up_self, va_up_self, tp_ne h1]
    · rw [va_up_ne _ _ h2, va_up_ne _ _ h2, tp_ne h1]
theorem tp_wri (σ : Nat → Nat → Int32) (a k t m c : Int32) : wriS (tpS σ a k t m) c = tpS (wriS σ c) a k t m := by
  unfold wriS
  rw [tp_ne (by decide : (3 : Nat) ≠ 1)]
  by_cases h1 : σ 3 3 < 0
  · rw [if_pos h1, if_pos h1]
  · rw [if_neg h1, if_neg h1]
    by_cases h2 : 160 ≤ σ 3 3
    · rw [if_pos h2, if_pos h2]
    · rw [if_neg h2, if_neg h2, tp_row (by decide), tp_row (by decide)]
theorem wri_rs (σ : Nat → Nat → Int32) {z : Nat} {s : Rs} (h : okR z s) (c : Int32) : wriS (rsS σ s) c = rsS σ (wrR c s) := by
  unfold rsS wrR
  rw [tp_wri, wri_rd σ h.2]
theorem skp_nx_le (β : Nat → Int32) {z a : Nat} (h : a ≤ z) : nxA β z (skpG β z 161 a) ≤ z := (nx_le β (skpG_le β z 161 a h).2).2
theorem okR_nx {β : Nat → Int32} {z : Nat} {s : Rs} (h : okR z s) : okR z (nxR β z s) := ⟨skp_nx_le β h.1, h.2⟩
theorem okR_wr {z : Nat} {s : Rs} (h : okR z s) (c : Int32) : okR z (wrR c s) := ⟨h.1, wriL_le h.2 c⟩
