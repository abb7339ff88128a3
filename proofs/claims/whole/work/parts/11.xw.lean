/-! ===== the class's world. ids: 0 the object; 1 tape, 2 its bytes; 3 reader, 4 its code, 5 its starts; 6 pile, 7 its numbers; 8 texts;
9 + 8 b, b < 3: table, thought, kept: the table, its row of guests, guests 0 .. 5; 33 sheets; 34 .. 37 a sheet; 38 .. 41 its numbers; 42 + 3 t: text t, its code, its starts (t < n).
ρ: what the pile holds; TT b: a table (row q < 6: guest q's fields; row 6: seats 1, minute 2, law 3); τ t: code 0, starts 1, number and length 2; σ: all else ===== -/
def upT (T : Nat → Nat → Int32) (q k : Nat) (v : Int32) : Nat → Nat → Int32 := va_up T q (upd (T q) k v)
def upR (r : Nat → Nat → Int32) (o k : Nat) (v : Int32) : Nat → Nat → Int32 := va_up r o (upd (r o) k v)
abbrev va_refs (cA : ClassId) (n : Nat) (f : Nat → Option Nat) : va_E := .inl (cA, n, .inr (.inr (.inr (.inr f))))
def xg_fs (g : Nat → Int32) : List Value := [.int (g 0), .int (g 1), .int (g 2), .int (g 3), .int (g 4), .int (g 5), .int (g 6)]
def xt_fs (ad : Nat → Nat) (o : Nat) (g : Nat → Int32) : List Value := [.ref (ad (o + 1)), .int (g 1), .int (g 2), .ref (ad (42 + 3 * (g 3).toNatClampNeg))]
def x0_fs (ad : Nat → Nat) (g : Nat → Int32) : List Value := [.ref (ad 1), .ref (ad 3), .ref (ad 6), .ref (ad 8), .int (g 4), .ref (ad 9), .ref (ad 17), .ref (ad 25), .int (g 8), .ref (ad 33)]
def x1_fs (ad : Nat → Nat) (g : Nat → Int32) : List Value := [.ref (ad 2), .int (g 1), .int (g 2), .int (g 3), .int (g 4), .int (g 5)]
def x3_fs (ad : Nat → Nat) (g : Nat → Int32) : List Value := [.ref (ad 1), .ref (ad 4), .ref (ad 5), .int (g 3)]
def x6_fs (ad : Nat → Nat) (g : Nat → Int32) : List Value := [.ref (ad 7), .int (g 1)]
def xs_fs (ad : Nat → Nat) (o : Nat) (g : Nat → Int32) : List Value := [.ref (ad (o + 4)), .int (g 1), .int (g 2)]
def xent (ad : Nat → Nat) (cs : Nat → ClassId) (n : Nat) (ρ : Nat → Nat → Int32) (TT τ : Nat → Nat → Nat → Int32) (σ : Nat → Nat → Int32) (o : Nat) : va_E :=
  if o < 9 then
    (if o = 0 then .inr (7, x0_fs ad (σ 0)) else if o = 1 then .inr (5, x1_fs ad (σ 1)) else if o = 2 then .inl (cs 0, 160, .inl (σ 2)) else if o = 3 then .inr (2, x3_fs ad (σ 3))
     else if o = 4 then .inl (cs 0, 160, .inl (σ 4)) else if o = 5 then .inl (cs 0, 4, .inl (σ 5)) else if o = 6 then .inr (1, x6_fs ad (ρ 6)) else if o = 7 then .inl (cs 0, 64, .inl (ρ 7))
     else va_refs (cs 2) 6 (fun i => if i < n then some (ad (42 + 3 * i)) else none))
  else if o < 33 then
    (if (o - 9) % 8 = 0 then .inr (4, xt_fs ad o (TT ((o - 9) / 8) 6)) else if (o - 9) % 8 = 1 then va_refs (cs 1) 6 (fun i => some (ad (o + 1 + i))) else .inr (0, xg_fs (TT ((o - 9) / 8) ((o - 9) % 8 - 2))))
  else if o < 42 then
    (if o = 33 then va_refs (cs 3) 4 (fun i => some (ad (34 + i))) else if o < 38 then .inr (3, xs_fs ad o (σ o)) else .inl (cs 0, 40, .inl (σ o)))
  else
    (if (o - 42) % 3 = 0 then .inr (6, [.int (τ ((o - 42) / 3) 2 0), .ref (ad (o + 1)), .ref (ad (o + 2)), .ref (ad 6)]) else if (o - 42) % 3 = 1 then .inl (cs 0, (τ ((o - 42) / 3) 2 1).toNatClampNeg, .inl (τ ((o - 42) / 3) 0)) else .inl (cs 0, 4, .inl (τ ((o - 42) / 3) 1)))
abbrev xtys (cs : Nat → ClassId) : List (ClassId × FieldType) := [(cs 0, .int), (cs 1, .object "StalemateDinner$Guest"), (cs 2, .object "StalemateDinner$Text"), (cs 3, .object "StalemateDinner$Sheet")]
def XE : State → Prop := fun U => va_Nw (.methodLinkNest RX4 76 yX7_holds RX7) U
theorem XE_E : gw_E XE := fun _ _ _ _ h => h
abbrev XW (D : va_G) (cs : Nat → ClassId) (ad : Nat → Nat) (n : Nat) (ρ : Nat → Nat → Int32) (TT τ : Nat → Nat → Nat → Int32) (σ : Nat → Nat → Int32) (A : Nat → Prop) (s : State) (H0 H : Heap) (locs : List Loc) : Prop :=
  GW D (xtys cs) (42 + 3 * n) ad (xent ad cs n ρ TT τ σ) A s H0 H locs
section XEL
variable {n : Nat} {cs : Nat → ClassId} {ad : Nat → Nat} {ρ σ : Nat → Nat → Int32} {TT τ : Nat → Nat → Nat → Int32}
theorem xe_0 : xent ad cs n ρ TT τ σ 0 = .inr (7, x0_fs ad (σ 0)) := rfl
theorem xe_1 : xent ad cs n ρ TT τ σ 1 = .inr (5, x1_fs ad (σ 1)) := rfl
theorem xe_2 : xent ad cs n ρ TT τ σ 2 = .inl (cs 0, 160, .inl (σ 2)) := rfl
theorem xe_3 : xent ad cs n ρ TT τ σ 3 = .inr (2, x3_fs ad (σ 3)) := rfl
theorem xe_4 : xent ad cs n ρ TT τ σ 4 = .inl (cs 0, 160, .inl (σ 4)) := rfl
theorem xe_5 : xent ad cs n ρ TT τ σ 5 = .inl (cs 0, 4, .inl (σ 5)) := rfl
theorem xe_6 : xent ad cs n ρ TT τ σ 6 = .inr (1, x6_fs ad (ρ 6)) := rfl
theorem xe_7 : xent ad cs n ρ TT τ σ 7 = .inl (cs 0, 64, .inl (ρ 7)) := rfl
theorem xe_8 : xent ad cs n ρ TT τ σ 8 = va_refs (cs 2) 6 (fun i => if i < n then some (ad (42 + 3 * i)) else none) := rfl
theorem xe_33 : xent ad cs n ρ TT τ σ 33 = va_refs (cs 3) 4 (fun i => some (ad (34 + i))) := rfl
theorem xe_T {b : Nat} (hb : b < 3) : xent ad cs n ρ TT τ σ (9 + 8 * b) = .inr (4, xt_fs ad (9 + 8 * b) (TT b 6)) := by
  simp only [xent, if_neg (show ¬ 9 + 8 * b < 9 by omega), if_pos (show 9 + 8 * b < 33 by omega), if_pos (show (9 + 8 * b - 9) % 8 = 0 by omega), show (9 + 8 * b - 9) / 8 = b by omega]
theorem xe_R {b : Nat} (hb : b < 3) : xent ad cs n ρ TT τ σ (9 + 8 * b + 1) = va_refs (cs 1) 6 (fun i => some (ad (9 + 8 * b + 1 + 1 + i))) := by
  simp only [xent, if_neg (show ¬ 9 + 8 * b + 1 < 9 by omega), if_pos (show 9 + 8 * b + 1 < 33 by omega), if_neg (show ¬ (9 + 8 * b + 1 - 9) % 8 = 0 by omega), if_pos (show (9 + 8 * b + 1 - 9) % 8 = 1 by omega)]
theorem xe_G {b q : Nat} (hb : b < 3) (hq : q < 6) : xent ad cs n ρ TT τ σ (9 + 8 * b + 1 + 1 + q) = .inr (0, xg_fs (TT b q)) := by
  simp only [xent, if_neg (show ¬ 9 + 8 * b + 1 + 1 + q < 9 by omega), if_pos (show 9 + 8 * b + 1 + 1 + q < 33 by omega), if_neg (show ¬ (9 + 8 * b + 1 + 1 + q - 9) % 8 = 0 by omega), if_neg (show ¬ (9 + 8 * b + 1 + 1 + q - 9) % 8 = 1 by omega), show (9 + 8 * b + 1 + 1 + q - 9) / 8 = b by omega, show (9 + 8 * b + 1 + 1 + q - 9) % 8 - 2 = q by omega]
theorem xe_S {j : Nat} (hj : j < 4) : xent ad cs n ρ TT τ σ (34 + j) = .inr (3, xs_fs ad (34 + j) (σ (34 + j))) := by
  simp only [xent, if_neg (show ¬ 34 + j < 9 by omega), if_neg (show ¬ 34 + j < 33 by omega), if_pos (show 34 + j < 42 by omega), if_neg (show ¬ 34 + j = 33 by omega), if_pos (show 34 + j < 38 by omega)]
theorem xe_N {j : Nat} (hj : j < 4) : xent ad cs n ρ TT τ σ (34 + j + 4) = .inl (cs 0, 40, .inl (σ (34 + j + 4))) := by
  simp only [xent, if_neg (show ¬ 34 + j + 4 < 9 by omega), if_neg (show ¬ 34 + j + 4 < 33 by omega), if_pos (show 34 + j + 4 < 42 by omega), if_neg (show ¬ 34 + j + 4 = 33 by omega), if_neg (show ¬ 34 + j + 4 < 38 by omega)]
theorem xe_X (t : Nat) : xent ad cs n ρ TT τ σ (42 + 3 * t) = .inr (6, [.int (τ t 2 0), .ref (ad (42 + 3 * t + 1)), .ref (ad (42 + 3 * t + 2)), .ref (ad 6)]) := by
  simp only [xent, if_neg (show ¬ 42 + 3 * t < 9 by omega), if_neg (show ¬ 42 + 3 * t < 33 by omega), if_neg (show ¬ 42 + 3 * t < 42 by omega), if_pos (show (42 + 3 * t - 42) % 3 = 0 by omega), show (42 + 3 * t - 42) / 3 = t by omega]
theorem xe_C (t : Nat) : xent ad cs n ρ TT τ σ (42 + 3 * t + 1) = .inl (cs 0, (τ t 2 1).toNatClampNeg, .inl (τ t 0)) := by
  simp only [xent, if_neg (show ¬ 42 + 3 * t + 1 < 9 by omega), if_neg (show ¬ 42 + 3 * t + 1 < 33 by omega), if_neg (show ¬ 42 + 3 * t + 1 < 42 by omega), if_neg (show ¬ (42 + 3 * t + 1 - 42) % 3 = 0 by omega), if_pos (show (42 + 3 * t + 1 - 42) % 3 = 1 by omega), show (42 + 3 * t + 1 - 42) / 3 = t by omega]
theorem xe_Z (t : Nat) : xent ad cs n ρ TT τ σ (42 + 3 * t + 2) = .inl (cs 0, 4, .inl (τ t 1)) := by
  simp only [xent, if_neg (show ¬ 42 + 3 * t + 2 < 9 by omega), if_neg (show ¬ 42 + 3 * t + 2 < 33 by omega), if_neg (show ¬ 42 + 3 * t + 2 < 42 by omega), if_neg (show ¬ (42 + 3 * t + 2 - 42) % 3 = 0 by omega), if_neg (show ¬ (42 + 3 * t + 2 - 42) % 3 = 1 by omega), show (42 + 3 * t + 2 - 42) / 3 = t by omega]
/-- what is written elsewhere isn't seen here -/
theorem xn_σ {k : Nat} {v : Int32} {o : Nat} (h : ∀ q, q ≠ o → (upR σ o k v) q = σ q := by intro q hq; exact va_up_ne _ _ hq) : ∀ q, q ≠ o → xent ad cs n ρ TT τ (upR σ o k v) q = xent ad cs n ρ TT τ σ q := by
  intro q hq
  have h1 := h q hq
  unfold xent
  by_cases h0 : q < 9
  · rw [if_pos h0, if_pos h0]
    have hz : ∀ z, q = z → upR σ o k v z = σ z := fun z hz => by subst hz; exact h1
    by_cases e0 : q = 0
    · rw [if_pos e0, if_pos e0, hz 0 e0]
    · rw [if_neg e0, if_neg e0]
      by_cases e1 : q = 1
      · rw [if_pos e1, if_pos e1, hz 1 e1]
      · rw [if_neg e1, if_neg e1]
        by_cases e2 : q = 2
        · rw [if_pos e2, if_pos e2, hz 2 e2]
        · rw [if_neg e2, if_neg e2]
          by_cases e3 : q = 3
          · rw [if_pos e3, if_pos e3, hz 3 e3]
          · rw [if_neg e3, if_neg e3]
            by_cases e4 : q = 4
            · rw [if_pos e4, if_pos e4, hz 4 e4]
            · rw [if_neg e4, if_neg e4]
              by_cases e5 : q = 5
              · rw [if_pos e5, if_pos e5, hz 5 e5]
              · rw [if_neg e5, if_neg e5]
  · rw [if_neg h0, if_neg h0, h1]
theorem xn_ρ {k : Nat} {v : Int32} {o : Nat} : ∀ q, q ≠ o → xent ad cs n (upR ρ o k v) TT τ σ q = xent ad cs n ρ TT τ σ q := by
  intro q hq
  have hz : ∀ z, q = z → upR ρ o k v z = ρ z := fun z hz => by subst hz; exact va_up_ne _ _ hq
  unfold xent
  by_cases h0 : q < 9
  · rw [if_pos h0, if_pos h0]
    by_cases e6 : q = 6
    · subst e6; rw [hz 6 rfl]; rfl
    · by_cases e7 : q = 7
      · subst e7; rw [hz 7 rfl]; rfl
      · simp only [e6, e7, if_false]
  · rw [if_neg h0, if_neg h0]
theorem xn_T {b r k : Nat} {v : Int32} {o : Nat} (hb : b < 3) (hr : r < 7) (ho : o = if r = 6 then 9 + 8 * b else 9 + 8 * b + 1 + 1 + r) : ∀ q, q ≠ o → xent ad cs n ρ (va_up TT b (upT (TT b) r k v)) τ σ q = xent ad cs n ρ TT τ σ q := by
  intro q hq
  unfold xent
  by_cases h0 : q < 9
  · rw [if_pos h0, if_pos h0]
  · rw [if_neg h0, if_neg h0]
    by_cases h1 : q < 33
    · rw [if_pos h1, if_pos h1]
      have key : ∀ r', ¬ ((q - 9) / 8 = b ∧ r' = r) → va_up TT b (upT (TT b) r k v) ((q - 9) / 8) r' = TT ((q - 9) / 8) r' := by
        intro r' hh
        by_cases hb' : (q - 9) / 8 = b
        · rw [hb', va_up_self]
          exact va_up_ne _ _ (fun e => hh ⟨hb', e⟩)
        · rw [va_up_ne _ _ hb']
      by_cases h2 : (q - 9) % 8 = 0
      · rw [if_pos h2, if_pos h2, key 6 (fun ⟨e1, e2⟩ => hq (by rw [ho, if_pos e2.symm]; omega))]
      · rw [if_neg h2, if_neg h2]
        by_cases h3 : (q - 9) % 8 = 1
        · rw [if_pos h3, if_pos h3]
        · rw [if_neg h3, if_neg h3, key _ (fun ⟨e1, e2⟩ => hq (by rw [ho, if_neg (by omega)]; omega))]
    · rw [if_neg h1, if_neg h1]
end XEL
theorem xg_set (g : Nat → Int32) {k : Nat} (hk : k < 7) (v : Int32) : (xg_fs g).set k (.int v) = xg_fs (upd g k v) := by
  rcases k with _ | _ | _ | _ | _ | _ | _ | k <;> first | rfl | omega
theorem xt_set (ad : Nat → Nat) (o : Nat) (g : Nat → Int32) {k : Nat} (hk : k = 1 ∨ k = 2) (v : Int32) : (xt_fs ad o g).set k (.int v) = xt_fs ad o (upd g k v) := by
  rcases hk with rfl | rfl <;> rfl
theorem upT_self (T : Nat → Nat → Int32) (q k : Nat) (v : Int32) : upT T q k v q = upd (T q) k v := va_up_self _ _ _
theorem upR_self (T : Nat → Nat → Int32) (q k : Nat) (v : Int32) : upR T q k v q = upd (T q) k v := va_up_self _ _ _
theorem upTT_self (TT : Nat → Nat → Nat → Int32) (b q k : Nat) (v : Int32) : va_up TT b (upT (TT b) q k v) b q = upd (TT b q) k v := by rw [va_up_self, upT_self]
section XRO
variable {p : Program} {l : Launch} {e : Env} {R : Room} {s : State} {m : MethodId} {args : Array Value} {below : List Frame} {meth : Method} {c : Code} {H H0 : Heap} {locs : List Loc} {cells slots : Nat} {Q : State → Prop}
variable {cc : ByteArray} {pc nL idx n : Nat} {ls : Array Slot} {rest : List Value} {D : va_G} {A : Nat → Prop} {cs : Nat → ClassId} {ad : Nat → Nat} {own : String}
variable {ρ σ : Nat → Nat → Int32} {TT τ : Nat → Nat → Nat → Int32}

/-- guests: read, write an int, write danger -/
theorem xr_G {b q : Nat} (F : CallFix p m c cc nL s args TBL own) (hW : XW D cs ad n ρ TT τ σ A s H0 H locs) (hb : b < 3) (hq : q < 6) (k : Nat) (hk : k < 7) (hl : Cond.fieldLink own idx (TX0 k).1 (TX0 k).2.1 (TX0 k).2.2.1 ∈ TBL) (hdg : decode cc pc = .ok (.getfield idx, 3))
    (kk : W p l e R s m args below meth c H locs cells slots Q (F0 m (pc + 3) ls (.int (TT b q k) :: rest))) : W p l e R s m args below meth c H locs cells slots Q (F0 m pc ls (.ref (ad (9 + 8 * b + 1 + 1 + q)) :: rest)) :=
  gw_getf F hW (by omega) (xe_G hb hq) (C := RX0) (T := TX0) (n := 7) rfl in_RX0 k hk hl (by rcases k with _ | _ | _ | _ | _ | _ | _ | k <;> first | rfl | omega) hdg kk
theorem xw_G {b q : Nat} {v : Int32} {ty : FieldType} (F : CallFix p m c cc nL s args TBL own) (hW : XW D cs ad n ρ TT τ σ A s H0 H locs) (hb : b < 3) (hq : q < 6) (k : Nat) (hk : k < 7) (hl : Cond.fieldLink own idx (TX0 k).1 (TX0 k).2.1 (TX0 k).2.2.1 ∈ TBL) (hfin : (TX0 k).2.2.2 = false) (htk : tyX0 k = ty) (hn : narrow ty (.int v) = .int v) (hfit : fits ty (.int v) = true) (hdg : decode cc pc = .ok (.putfield idx, 3))
    (kk : ∀ (H1 : Heap) (locs1 : List Loc), XW D cs ad n ρ (va_up TT b (upT (TT b) q k v)) τ σ A s H0 H1 locs1 → W p l e R s m args below meth c H1 locs1 cells slots Q (F0 m (pc + 3) ls rest)) : W p l e R s m args below meth c H locs cells slots Q (F0 m pc ls (.int v :: .ref (ad (9 + 8 * b + 1 + 1 + q)) :: rest)) :=
  gw_putf F hW (by omega) (xe_G hb hq) (C := RX0) (T := TX0) (n := 7) rfl in_RX0 tyX0 tyX0_ok nmX0 k hk hl hfin htk hn hfit hk (xe_G hb hq) (by rw [upTT_self]; exact xg_set _ hk v) (xn_T hb (by omega) (by rw [if_neg (by omega)])) hdg kk
/-- a table's guests, numbers, law -/
theorem xr_Tg {b : Nat} (F : CallFix p m c cc nL s args TBL own) (hW : XW D cs ad n ρ TT τ σ A s H0 H locs) (hb : b < 3) (hl : Cond.fieldLink own idx (TX4 0).1 (TX4 0).2.1 (TX4 0).2.2.1 ∈ TBL) (hdg : decode cc pc = .ok (.getfield idx, 3))
    (kk : W p l e R s m args below meth c H locs cells slots Q (F0 m (pc + 3) ls (.ref (ad (9 + 8 * b + 1)) :: rest))) : W p l e R s m args below meth c H locs cells slots Q (F0 m pc ls (.ref (ad (9 + 8 * b)) :: rest)) :=
  gw_getf F hW (by omega) (xe_T hb) (C := RX4) (T := TX4) (n := 4) rfl in_RX4 0 (by decide) hl rfl hdg kk
theorem xr_Ti {b : Nat} (F : CallFix p m c cc nL s args TBL own) (hW : XW D cs ad n ρ TT τ σ A s H0 H locs) (hb : b < 3) (k : Nat) (hk : k = 1 ∨ k = 2) (hl : Cond.fieldLink own idx (TX4 k).1 (TX4 k).2.1 (TX4 k).2.2.1 ∈ TBL) (hdg : decode cc pc = .ok (.getfield idx, 3))
    (kk : W p l e R s m args below meth c H locs cells slots Q (F0 m (pc + 3) ls (.int (TT b 6 k) :: rest))) : W p l e R s m args below meth c H locs cells slots Q (F0 m pc ls (.ref (ad (9 + 8 * b)) :: rest)) :=
  gw_getf F hW (by omega) (xe_T hb) (C := RX4) (T := TX4) (n := 4) rfl in_RX4 k (by omega) hl (by rcases hk with rfl | rfl <;> rfl) hdg kk
theorem xr_Tl {b : Nat} (F : CallFix p m c cc nL s args TBL own) (hW : XW D cs ad n ρ TT τ σ A s H0 H locs) (hb : b < 3) (hl : Cond.fieldLink own idx (TX4 3).1 (TX4 3).2.1 (TX4 3).2.2.1 ∈ TBL) (hdg : decode cc pc = .ok (.getfield idx, 3))
    (kk : W p l e R s m args below meth c H locs cells slots Q (F0 m (pc + 3) ls (.ref (ad (42 + 3 * (TT b 6 3).toNatClampNeg)) :: rest))) : W p l e R s m args below meth c H locs cells slots Q (F0 m pc ls (.ref (ad (9 + 8 * b)) :: rest)) :=
  gw_getf F hW (by omega) (xe_T hb) (C := RX4) (T := TX4) (n := 4) rfl in_RX4 3 (by decide) hl rfl hdg kk
theorem xw_Ti {b : Nat} {v : Int32} (F : CallFix p m c cc nL s args TBL own) (hW : XW D cs ad n ρ TT τ σ A s H0 H locs) (hb : b < 3) (k : Nat) (hk : k = 1 ∨ k = 2) (hl : Cond.fieldLink own idx (TX4 k).1 (TX4 k).2.1 (TX4 k).2.2.1 ∈ TBL) (hdg : decode cc pc = .ok (.putfield idx, 3))
    (kk : ∀ (H1 : Heap) (locs1 : List Loc), XW D cs ad n ρ (va_up TT b (upT (TT b) 6 k v)) τ σ A s H0 H1 locs1 → W p l e R s m args below meth c H1 locs1 cells slots Q (F0 m (pc + 3) ls rest)) : W p l e R s m args below meth c H locs cells slots Q (F0 m pc ls (.int v :: .ref (ad (9 + 8 * b)) :: rest)) :=
  gw_putf F hW (by omega) (xe_T hb) (C := RX4) (T := TX4) (n := 4) rfl in_RX4 tyX4 tyX4_ok nmX4 k (by omega) hl (by rcases hk with rfl | rfl <;> rfl) (ty := .int) (by rcases hk with rfl | rfl <;> rfl) rfl rfl (by show k < 4; omega) (xe_T hb) (by rw [upTT_self]; exact xt_set _ _ _ hk v) (xn_T hb (by omega) (by rw [if_pos rfl])) hdg kk
theorem xw_Tl {b t : Nat} {v : Int32} (hv : v.toNatClampNeg = t) (F : CallFix p m c cc nL s args TBL own) (hW : XW D cs ad n ρ TT τ σ A s H0 H locs) (hb : b < 3) (hl : Cond.fieldLink own idx (TX4 3).1 (TX4 3).2.1 (TX4 3).2.2.1 ∈ TBL) (hdg : decode cc pc = .ok (.putfield idx, 3))
    (kk : ∀ (H1 : Heap) (locs1 : List Loc), XW D cs ad n ρ (va_up TT b (upT (TT b) 6 3 v)) τ σ A s H0 H1 locs1 → W p l e R s m args below meth c H1 locs1 cells slots Q (F0 m (pc + 3) ls rest)) : W p l e R s m args below meth c H locs cells slots Q (F0 m pc ls (.ref (ad (42 + 3 * t)) :: .ref (ad (9 + 8 * b)) :: rest)) :=
  gw_putf F hW (by omega) (xe_T hb) (C := RX4) (T := TX4) (n := 4) rfl in_RX4 tyX4 tyX4_ok nmX4 3 (by decide) hl rfl rfl rfl rfl (by show 3 < 4; omega) (xe_T hb) (by rw [upTT_self, ← hv]; rfl) (xn_T hb (by omega) (by rw [if_pos rfl])) hdg kk
theorem xr_R {b : Nat} {i : Int32} (F : CallFix p m c cc nL s args TBL own) (hW : XW D cs ad n ρ TT τ σ A s H0 H locs) (hb : b < 3) (hin : vp_in i 6) (hdg : decode cc pc = .ok (.aaload, 1))
    (kk : W p l e R s m args below meth c H locs cells slots Q (F0 m (pc + 1) ls (.ref (ad (9 + 8 * b + 1 + 1 + i.toNatClampNeg)) :: rest))) : W p l e R s m args below meth c H locs cells slots Q (F0 m pc ls (.int i :: .ref (ad (9 + 8 * b + 1)) :: rest)) :=
  gw_aald F hW (by omega) (xe_R hb) (t0 := 1) rfl hin rfl hdg kk
/-- a text's fields, its code, its starts -/
theorem xr_X {t : Nat} (F : CallFix p m c cc nL s args TBL own) (hW : XW D cs ad n ρ TT τ σ A s H0 H locs) (ht : t < n) (k : Nat) {v : Value} (hk : k < 4) (hv : [Value.int (τ t 2 0), .ref (ad (42 + 3 * t + 1)), .ref (ad (42 + 3 * t + 2)), .ref (ad 6)][k]? = some v) (hl : Cond.fieldLink own idx (TX6 k).1 (TX6 k).2.1 (TX6 k).2.2.1 ∈ TBL) (hdg : decode cc pc = .ok (.getfield idx, 3))
    (kk : W p l e R s m args below meth c H locs cells slots Q (F0 m (pc + 3) ls (v :: rest))) : W p l e R s m args below meth c H locs cells slots Q (F0 m pc ls (.ref (ad (42 + 3 * t)) :: rest)) :=
  gw_getf F hW (by omega) (xe_X t) (C := RX6) (T := TX6) (n := 4) rfl in_RX6 k hk hl hv hdg kk
theorem xr_C {t : Nat} {i : Int32} (F : CallFix p m c cc nL s args TBL own) (hW : XW D cs ad n ρ TT τ σ A s H0 H locs) (ht : t < n) (hin : vp_in i (τ t 2 1).toNatClampNeg) (hdg : decode cc pc = .ok (.iaload, 1))
    (kk : W p l e R s m args below meth c H locs cells slots Q (F0 m (pc + 1) ls (.int (τ t 0 i.toNatClampNeg) :: rest))) : W p l e R s m args below meth c H locs cells slots Q (F0 m pc ls (.int i :: .ref (ad (42 + 3 * t + 1)) :: rest)) :=
  gw_iald F hW (by omega) (xe_C t) (t0 := 0) rfl hin hdg kk
theorem xr_Cl {t : Nat} (F : CallFix p m c cc nL s args TBL own) (hW : XW D cs ad n ρ TT τ σ A s H0 H locs) (ht : t < n) {v : Int32} (hv : Int32.ofNat (τ t 2 1).toNatClampNeg = v) (hdg : decode cc pc = .ok (.arraylength, 1))
    (kk : W p l e R s m args below meth c H locs cells slots Q (F0 m (pc + 1) ls (.int v :: rest))) : W p l e R s m args below meth c H locs cells slots Q (F0 m pc ls (.ref (ad (42 + 3 * t + 1)) :: rest)) :=
  gw_alen F hW (by omega) (xe_C t) (t0 := 0) rfl hv hdg kk
theorem xr_Z {t : Nat} {i : Int32} (F : CallFix p m c cc nL s args TBL own) (hW : XW D cs ad n ρ TT τ σ A s H0 H locs) (ht : t < n) (hin : vp_in i 4) (hdg : decode cc pc = .ok (.iaload, 1))
    (kk : W p l e R s m args below meth c H locs cells slots Q (F0 m (pc + 1) ls (.int (τ t 1 i.toNatClampNeg) :: rest))) : W p l e R s m args below meth c H locs cells slots Q (F0 m pc ls (.int i :: .ref (ad (42 + 3 * t + 2)) :: rest)) :=
  gw_iald F hW (by omega) (xe_Z t) (t0 := 0) rfl hin hdg kk
theorem xr_Zl {t : Nat} (F : CallFix p m c cc nL s args TBL own) (hW : XW D cs ad n ρ TT τ σ A s H0 H locs) (ht : t < n) (hdg : decode cc pc = .ok (.arraylength, 1))
    (kk : W p l e R s m args below meth c H locs cells slots Q (F0 m (pc + 1) ls (.int 4 :: rest))) : W p l e R s m args below meth c H locs cells slots Q (F0 m pc ls (.ref (ad (42 + 3 * t + 2)) :: rest)) :=
  gw_alen F hW (by omega) (xe_Z t) (t0 := 0) rfl rfl hdg kk
theorem xr_O (F : CallFix p m c cc nL s args TBL own) (hW : XW D cs ad n ρ TT τ σ A s H0 H locs) (k : Nat) {v : Value} (hk : k < 10) (hv : (x0_fs ad (σ 0))[k]? = some v) (hl : Cond.fieldLink own idx (TX7 k).1 (TX7 k).2.1 (TX7 k).2.2.1 ∈ TBL) (hdg : decode cc pc = .ok (.getfield idx, 3))
    (kk : W p l e R s m args below meth c H locs cells slots Q (F0 m (pc + 3) ls (v :: rest))) : W p l e R s m args below meth c H locs cells slots Q (F0 m pc ls (.ref (ad 0) :: rest)) :=
  gw_getf F hW (by omega) xe_0 (C := RX7) (T := TX7) (n := 10) rfl in_RX7 k hk hl hv hdg kk
theorem xw_O {v : Int32} {ty : FieldType} (F : CallFix p m c cc nL s args TBL own) (hW : XW D cs ad n ρ TT τ σ A s H0 H locs) (k : Nat) (hk : k < 10) (hl : Cond.fieldLink own idx (TX7 k).1 (TX7 k).2.1 (TX7 k).2.2.1 ∈ TBL) (hfin : (TX7 k).2.2.2 = false) (htk : tyX7 k = ty) (hn : narrow ty (.int v) = .int v) (hfit : fits ty (.int v) = true) (hs : (x0_fs ad (σ 0)).set k (.int v) = x0_fs ad (upd (σ 0) k v)) (hdg : decode cc pc = .ok (.putfield idx, 3))
    (kk : ∀ (H1 : Heap) (locs1 : List Loc), XW D cs ad n ρ TT τ (upR σ 0 k v) A s H0 H1 locs1 → W p l e R s m args below meth c H1 locs1 cells slots Q (F0 m (pc + 3) ls rest)) : W p l e R s m args below meth c H locs cells slots Q (F0 m pc ls (.int v :: .ref (ad 0) :: rest)) :=
  gw_putf F hW (by omega) xe_0 (C := RX7) (T := TX7) (n := 10) rfl in_RX7 tyX7 tyX7_ok nmX7 k hk hl hfin htk hn hfit hk xe_0 (by rw [upR_self]; exact hs) xn_σ hdg kk
theorem xr_P (F : CallFix p m c cc nL s args TBL own) (hW : XW D cs ad n ρ TT τ σ A s H0 H locs) (k : Nat) {v : Value} (hk : k < 6) (hv : (x1_fs ad (σ 1))[k]? = some v) (hl : Cond.fieldLink own idx (TX5 k).1 (TX5 k).2.1 (TX5 k).2.2.1 ∈ TBL) (hdg : decode cc pc = .ok (.getfield idx, 3))
    (kk : W p l e R s m args below meth c H locs cells slots Q (F0 m (pc + 3) ls (v :: rest))) : W p l e R s m args below meth c H locs cells slots Q (F0 m pc ls (.ref (ad 1) :: rest)) :=
  gw_getf F hW (by omega) xe_1 (C := RX5) (T := TX5) (n := 6) rfl in_RX5 k hk hl hv hdg kk
theorem xw_P {v : Int32} {ty : FieldType} (F : CallFix p m c cc nL s args TBL own) (hW : XW D cs ad n ρ TT τ σ A s H0 H locs) (k : Nat) (hk : k < 6) (hl : Cond.fieldLink own idx (TX5 k).1 (TX5 k).2.1 (TX5 k).2.2.1 ∈ TBL) (hfin : (TX5 k).2.2.2 = false) (htk : tyX5 k = ty) (hn : narrow ty (.int v) = .int v) (hfit : fits ty (.int v) = true) (hs : (x1_fs ad (σ 1)).set k (.int v) = x1_fs ad (upd (σ 1) k v)) (hdg : decode cc pc = .ok (.putfield idx, 3))
    (kk : ∀ (H1 : Heap) (locs1 : List Loc), XW D cs ad n ρ TT τ (upR σ 1 k v) A s H0 H1 locs1 → W p l e R s m args below meth c H1 locs1 cells slots Q (F0 m (pc + 3) ls rest)) : W p l e R s m args below meth c H locs cells slots Q (F0 m pc ls (.int v :: .ref (ad 1) :: rest)) :=
  gw_putf F hW (by omega) xe_1 (C := RX5) (T := TX5) (n := 6) rfl in_RX5 tyX5 tyX5_ok nmX5 k hk hl hfin htk hn hfit hk xe_1 (by rw [upR_self]; exact hs) xn_σ hdg kk
theorem xr_D (F : CallFix p m c cc nL s args TBL own) (hW : XW D cs ad n ρ TT τ σ A s H0 H locs) (k : Nat) {v : Value} (hk : k < 4) (hv : (x3_fs ad (σ 3))[k]? = some v) (hl : Cond.fieldLink own idx (TX2 k).1 (TX2 k).2.1 (TX2 k).2.2.1 ∈ TBL) (hdg : decode cc pc = .ok (.getfield idx, 3))
    (kk : W p l e R s m args below meth c H locs cells slots Q (F0 m (pc + 3) ls (v :: rest))) : W p l e R s m args below meth c H locs cells slots Q (F0 m pc ls (.ref (ad 3) :: rest)) :=
  gw_getf F hW (by omega) xe_3 (C := RX2) (T := TX2) (n := 4) rfl in_RX2 k hk hl hv hdg kk
theorem xw_D {v : Int32} {ty : FieldType} (F : CallFix p m c cc nL s args TBL own) (hW : XW D cs ad n ρ TT τ σ A s H0 H locs) (k : Nat) (hk : k < 4) (hl : Cond.fieldLink own idx (TX2 k).1 (TX2 k).2.1 (TX2 k).2.2.1 ∈ TBL) (hfin : (TX2 k).2.2.2 = false) (htk : tyX2 k = ty) (hn : narrow ty (.int v) = .int v) (hfit : fits ty (.int v) = true) (hs : (x3_fs ad (σ 3)).set k (.int v) = x3_fs ad (upd (σ 3) k v)) (hdg : decode cc pc = .ok (.putfield idx, 3))
    (kk : ∀ (H1 : Heap) (locs1 : List Loc), XW D cs ad n ρ TT τ (upR σ 3 k v) A s H0 H1 locs1 → W p l e R s m args below meth c H1 locs1 cells slots Q (F0 m (pc + 3) ls rest)) : W p l e R s m args below meth c H locs cells slots Q (F0 m pc ls (.int v :: .ref (ad 3) :: rest)) :=
  gw_putf F hW (by omega) xe_3 (C := RX2) (T := TX2) (n := 4) rfl in_RX2 tyX2 tyX2_ok nmX2 k hk hl hfin htk hn hfit hk xe_3 (by rw [upR_self]; exact hs) xn_σ hdg kk
theorem xr_I (F : CallFix p m c cc nL s args TBL own) (hW : XW D cs ad n ρ TT τ σ A s H0 H locs) (k : Nat) {v : Value} (hk : k < 2) (hv : (x6_fs ad (ρ 6))[k]? = some v) (hl : Cond.fieldLink own idx (TX1 k).1 (TX1 k).2.1 (TX1 k).2.2.1 ∈ TBL) (hdg : decode cc pc = .ok (.getfield idx, 3))
    (kk : W p l e R s m args below meth c H locs cells slots Q (F0 m (pc + 3) ls (v :: rest))) : W p l e R s m args below meth c H locs cells slots Q (F0 m pc ls (.ref (ad 6) :: rest)) :=
  gw_getf F hW (by omega) xe_6 (C := RX1) (T := TX1) (n := 2) rfl in_RX1 k hk hl hv hdg kk
theorem xw_I {v : Int32} {ty : FieldType} (F : CallFix p m c cc nL s args TBL own) (hW : XW D cs ad n ρ TT τ σ A s H0 H locs) (k : Nat) (hk : k < 2) (hl : Cond.fieldLink own idx (TX1 k).1 (TX1 k).2.1 (TX1 k).2.2.1 ∈ TBL) (hfin : (TX1 k).2.2.2 = false) (htk : tyX1 k = ty) (hn : narrow ty (.int v) = .int v) (hfit : fits ty (.int v) = true) (hs : (x6_fs ad (ρ 6)).set k (.int v) = x6_fs ad (upd (ρ 6) k v)) (hdg : decode cc pc = .ok (.putfield idx, 3))
    (kk : ∀ (H1 : Heap) (locs1 : List Loc), XW D cs ad n (upR ρ 6 k v) TT τ σ A s H0 H1 locs1 → W p l e R s m args below meth c H1 locs1 cells slots Q (F0 m (pc + 3) ls rest)) : W p l e R s m args below meth c H locs cells slots Q (F0 m pc ls (.int v :: .ref (ad 6) :: rest)) :=
  gw_putf F hW (by omega) xe_6 (C := RX1) (T := TX1) (n := 2) rfl in_RX1 tyX1 tyX1_ok nmX1 k hk hl hfin htk hn hfit hk xe_6 (by rw [upR_self]; exact hs) xn_ρ hdg kk
theorem xr_Be {i : Int32} (F : CallFix p m c cc nL s args TBL own) (hW : XW D cs ad n ρ TT τ σ A s H0 H locs) (hin : vp_in i 160) (hdg : decode cc pc = .ok (.iaload, 1))
    (kk : W p l e R s m args below meth c H locs cells slots Q (F0 m (pc + 1) ls (.int (σ 2 i.toNatClampNeg) :: rest))) : W p l e R s m args below meth c H locs cells slots Q (F0 m pc ls (.int i :: .ref (ad 2) :: rest)) :=
  gw_iald F hW (by omega) xe_2 (t0 := 0) rfl hin hdg kk
theorem xw_Be {i x : Int32} (F : CallFix p m c cc nL s args TBL own) (hW : XW D cs ad n ρ TT τ σ A s H0 H locs) (hin : vp_in i 160) (hdg : decode cc pc = .ok (.iastore, 1))
    (kk : ∀ (H1 : Heap) (locs1 : List Loc), XW D cs ad n ρ TT τ (upR σ 2 i.toNatClampNeg x) A s H0 H1 locs1 → W p l e R s m args below meth c H1 locs1 cells slots Q (F0 m (pc + 1) ls rest)) : W p l e R s m args below meth c H locs cells slots Q (F0 m pc ls (.int x :: .int i :: .ref (ad 2) :: rest)) :=
  gw_iast F hW (by omega) xe_2 (t0 := 0) rfl hin (xe_2.trans (by rw [upR_self])) xn_σ hdg kk
theorem xr_Bl (F : CallFix p m c cc nL s args TBL own) (hW : XW D cs ad n ρ TT τ σ A s H0 H locs) (hdg : decode cc pc = .ok (.arraylength, 1))
    (kk : W p l e R s m args below meth c H locs cells slots Q (F0 m (pc + 1) ls (.int 160 :: rest))) : W p l e R s m args below meth c H locs cells slots Q (F0 m pc ls (.ref (ad 2) :: rest)) :=
  gw_alen F hW (by omega) xe_2 (t0 := 0) rfl rfl hdg kk
theorem xr_Ke {i : Int32} (F : CallFix p m c cc nL s args TBL own) (hW : XW D cs ad n ρ TT τ σ A s H0 H locs) (hin : vp_in i 160) (hdg : decode cc pc = .ok (.iaload, 1))
    (kk : W p l e R s m args below meth c H locs cells slots Q (F0 m (pc + 1) ls (.int (σ 4 i.toNatClampNeg) :: rest))) : W p l e R s m args below meth c H locs cells slots Q (F0 m pc ls (.int i :: .ref (ad 4) :: rest)) :=
  gw_iald F hW (by omega) xe_4 (t0 := 0) rfl hin hdg kk
theorem xw_Ke {i x : Int32} (F : CallFix p m c cc nL s args TBL own) (hW : XW D cs ad n ρ TT τ σ A s H0 H locs) (hin : vp_in i 160) (hdg : decode cc pc = .ok (.iastore, 1))
    (kk : ∀ (H1 : Heap) (locs1 : List Loc), XW D cs ad n ρ TT τ (upR σ 4 i.toNatClampNeg x) A s H0 H1 locs1 → W p l e R s m args below meth c H1 locs1 cells slots Q (F0 m (pc + 1) ls rest)) : W p l e R s m args below meth c H locs cells slots Q (F0 m pc ls (.int x :: .int i :: .ref (ad 4) :: rest)) :=
  gw_iast F hW (by omega) xe_4 (t0 := 0) rfl hin (xe_4.trans (by rw [upR_self])) xn_σ hdg kk
theorem xr_Kl (F : CallFix p m c cc nL s args TBL own) (hW : XW D cs ad n ρ TT τ σ A s H0 H locs) (hdg : decode cc pc = .ok (.arraylength, 1))
    (kk : W p l e R s m args below meth c H locs cells slots Q (F0 m (pc + 1) ls (.int 160 :: rest))) : W p l e R s m args below meth c H locs cells slots Q (F0 m pc ls (.ref (ad 4) :: rest)) :=
  gw_alen F hW (by omega) xe_4 (t0 := 0) rfl rfl hdg kk
theorem xr_We {i : Int32} (F : CallFix p m c cc nL s args TBL own) (hW : XW D cs ad n ρ TT τ σ A s H0 H locs) (hin : vp_in i 4) (hdg : decode cc pc = .ok (.iaload, 1))
    (kk : W p l e R s m args below meth c H locs cells slots Q (F0 m (pc + 1) ls (.int (σ 5 i.toNatClampNeg) :: rest))) : W p l e R s m args below meth c H locs cells slots Q (F0 m pc ls (.int i :: .ref (ad 5) :: rest)) :=
  gw_iald F hW (by omega) xe_5 (t0 := 0) rfl hin hdg kk
theorem xw_We {i x : Int32} (F : CallFix p m c cc nL s args TBL own) (hW : XW D cs ad n ρ TT τ σ A s H0 H locs) (hin : vp_in i 4) (hdg : decode cc pc = .ok (.iastore, 1))
    (kk : ∀ (H1 : Heap) (locs1 : List Loc), XW D cs ad n ρ TT τ (upR σ 5 i.toNatClampNeg x) A s H0 H1 locs1 → W p l e R s m args below meth c H1 locs1 cells slots Q (F0 m (pc + 1) ls rest)) : W p l e R s m args below meth c H locs cells slots Q (F0 m pc ls (.int x :: .int i :: .ref (ad 5) :: rest)) :=
  gw_iast F hW (by omega) xe_5 (t0 := 0) rfl hin (xe_5.trans (by rw [upR_self])) xn_σ hdg kk
theorem xr_Wl (F : CallFix p m c cc nL s args TBL own) (hW : XW D cs ad n ρ TT τ σ A s H0 H locs) (hdg : decode cc pc = .ok (.arraylength, 1))
    (kk : W p l e R s m args below meth c H locs cells slots Q (F0 m (pc + 1) ls (.int 4 :: rest))) : W p l e R s m args below meth c H locs cells slots Q (F0 m pc ls (.ref (ad 5) :: rest)) :=
  gw_alen F hW (by omega) xe_5 (t0 := 0) rfl rfl hdg kk
theorem xr_Ue {i : Int32} (F : CallFix p m c cc nL s args TBL own) (hW : XW D cs ad n ρ TT τ σ A s H0 H locs) (hin : vp_in i 64) (hdg : decode cc pc = .ok (.iaload, 1))
    (kk : W p l e R s m args below meth c H locs cells slots Q (F0 m (pc + 1) ls (.int (ρ 7 i.toNatClampNeg) :: rest))) : W p l e R s m args below meth c H locs cells slots Q (F0 m pc ls (.int i :: .ref (ad 7) :: rest)) :=
  gw_iald F hW (by omega) xe_7 (t0 := 0) rfl hin hdg kk
theorem xw_Ue {i x : Int32} (F : CallFix p m c cc nL s args TBL own) (hW : XW D cs ad n ρ TT τ σ A s H0 H locs) (hin : vp_in i 64) (hdg : decode cc pc = .ok (.iastore, 1))
    (kk : ∀ (H1 : Heap) (locs1 : List Loc), XW D cs ad n (upR ρ 7 i.toNatClampNeg x) TT τ σ A s H0 H1 locs1 → W p l e R s m args below meth c H1 locs1 cells slots Q (F0 m (pc + 1) ls rest)) : W p l e R s m args below meth c H locs cells slots Q (F0 m pc ls (.int x :: .int i :: .ref (ad 7) :: rest)) :=
  gw_iast F hW (by omega) xe_7 (t0 := 0) rfl hin (xe_7.trans (by rw [upR_self])) xn_ρ hdg kk
theorem xr_Ul (F : CallFix p m c cc nL s args TBL own) (hW : XW D cs ad n ρ TT τ σ A s H0 H locs) (hdg : decode cc pc = .ok (.arraylength, 1))
    (kk : W p l e R s m args below meth c H locs cells slots Q (F0 m (pc + 1) ls (.int 64 :: rest))) : W p l e R s m args below meth c H locs cells slots Q (F0 m pc ls (.ref (ad 7) :: rest)) :=
  gw_alen F hW (by omega) xe_7 (t0 := 0) rfl rfl hdg kk
theorem xr_Ne {i : Int32} {j : Nat} (hj : j < 4) (F : CallFix p m c cc nL s args TBL own) (hW : XW D cs ad n ρ TT τ σ A s H0 H locs) (hin : vp_in i 40) (hdg : decode cc pc = .ok (.iaload, 1))
    (kk : W p l e R s m args below meth c H locs cells slots Q (F0 m (pc + 1) ls (.int (σ (34 + j + 4) i.toNatClampNeg) :: rest))) : W p l e R s m args below meth c H locs cells slots Q (F0 m pc ls (.int i :: .ref (ad (34 + j + 4)) :: rest)) :=
  gw_iald F hW (by omega) (xe_N hj) (t0 := 0) rfl hin hdg kk
theorem xw_Ne {i x : Int32} {j : Nat} (hj : j < 4) (F : CallFix p m c cc nL s args TBL own) (hW : XW D cs ad n ρ TT τ σ A s H0 H locs) (hin : vp_in i 40) (hdg : decode cc pc = .ok (.iastore, 1))
    (kk : ∀ (H1 : Heap) (locs1 : List Loc), XW D cs ad n ρ TT τ (upR σ (34 + j + 4) i.toNatClampNeg x) A s H0 H1 locs1 → W p l e R s m args below meth c H1 locs1 cells slots Q (F0 m (pc + 1) ls rest)) : W p l e R s m args below meth c H locs cells slots Q (F0 m pc ls (.int x :: .int i :: .ref (ad (34 + j + 4)) :: rest)) :=
  gw_iast F hW (by omega) (xe_N hj) (t0 := 0) rfl hin ((xe_N hj).trans (by rw [upR_self])) xn_σ hdg kk
theorem xr_Nl {j : Nat} (hj : j < 4) (F : CallFix p m c cc nL s args TBL own) (hW : XW D cs ad n ρ TT τ σ A s H0 H locs) (hdg : decode cc pc = .ok (.arraylength, 1))
    (kk : W p l e R s m args below meth c H locs cells slots Q (F0 m (pc + 1) ls (.int 40 :: rest))) : W p l e R s m args below meth c H locs cells slots Q (F0 m pc ls (.ref (ad (34 + j + 4)) :: rest)) :=
  gw_alen F hW (by omega) (xe_N hj) (t0 := 0) rfl rfl hdg kk
theorem xr_S {j : Nat} (hj : j < 4) (F : CallFix p m c cc nL s args TBL own) (hW : XW D cs ad n ρ TT τ σ A s H0 H locs) (k : Nat) {v : Value} (hk : k < 3) (hv : (xs_fs ad (34 + j) (σ (34 + j)))[k]? = some v) (hl : Cond.fieldLink own idx (TX3 k).1 (TX3 k).2.1 (TX3 k).2.2.1 ∈ TBL) (hdg : decode cc pc = .ok (.getfield idx, 3))
    (kk : W p l e R s m args below meth c H locs cells slots Q (F0 m (pc + 3) ls (v :: rest))) : W p l e R s m args below meth c H locs cells slots Q (F0 m pc ls (.ref (ad (34 + j)) :: rest)) :=
  gw_getf F hW (by omega) (xe_S hj) (C := RX3) (T := TX3) (n := 3) rfl in_RX3 k hk hl hv hdg kk
theorem xw_S {j : Nat} {v : Int32} (hj : j < 4) (F : CallFix p m c cc nL s args TBL own) (hW : XW D cs ad n ρ TT τ σ A s H0 H locs) (k : Nat) (hk : k = 1 ∨ k = 2) (hl : Cond.fieldLink own idx (TX3 k).1 (TX3 k).2.1 (TX3 k).2.2.1 ∈ TBL) (hdg : decode cc pc = .ok (.putfield idx, 3))
    (kk : ∀ (H1 : Heap) (locs1 : List Loc), XW D cs ad n ρ TT τ (upR σ (34 + j) k v) A s H0 H1 locs1 → W p l e R s m args below meth c H1 locs1 cells slots Q (F0 m (pc + 3) ls rest)) : W p l e R s m args below meth c H locs cells slots Q (F0 m pc ls (.int v :: .ref (ad (34 + j)) :: rest)) :=
  gw_putf F hW (by omega) (xe_S hj) (C := RX3) (T := TX3) (n := 3) rfl in_RX3 tyX3 tyX3_ok nmX3 k (by omega) hl (by rcases hk with rfl | rfl <;> rfl) (ty := .int) (by rcases hk with rfl | rfl <;> rfl) rfl rfl (by show k < 3; omega) (xe_S hj) (by rw [upR_self]; rcases hk with rfl | rfl <;> rfl) xn_σ hdg kk
theorem xr_Sa {i : Int32} (F : CallFix p m c cc nL s args TBL own) (hW : XW D cs ad n ρ TT τ σ A s H0 H locs) (hin : vp_in i 4) (hdg : decode cc pc = .ok (.aaload, 1))
    (kk : W p l e R s m args below meth c H locs cells slots Q (F0 m (pc + 1) ls (.ref (ad (34 + i.toNatClampNeg)) :: rest))) : W p l e R s m args below meth c H locs cells slots Q (F0 m pc ls (.int i :: .ref (ad 33) :: rest)) :=
  gw_aald F hW (by omega) xe_33 (t0 := 3) rfl hin rfl hdg kk
theorem xr_Xa {i : Int32} (F : CallFix p m c cc nL s args TBL own) (hW : XW D cs ad n ρ TT τ σ A s H0 H locs) (hin : vp_in i 6) (hn : i.toNatClampNeg < n) (hdg : decode cc pc = .ok (.aaload, 1))
    (kk : W p l e R s m args below meth c H locs cells slots Q (F0 m (pc + 1) ls (.ref (ad (42 + 3 * i.toNatClampNeg)) :: rest))) : W p l e R s m args below meth c H locs cells slots Q (F0 m pc ls (.int i :: .ref (ad 8) :: rest)) :=
  gw_aald F hW (by omega) xe_8 (t0 := 2) rfl hin (if_pos hn) hdg kk
end XRO
