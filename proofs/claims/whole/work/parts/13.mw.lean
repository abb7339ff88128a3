/-! ===== the reference's world. ids: 0 the object; 1 kind, 2 moreOf, 3 rows, 4 tape, 5 codes, 6 starts, 7 imageRows, 8 imageHeld, 9 sheetSort, 10 sheetSize, 11 cells, 12 law, 13 words, 14 held, 15 stack, 16 named, 17 kept.
T: a table (row q < 6: guest q's fields; row 6: guests 1, minutes 2, rule 3); ρ: stack, named, kept, stuckThen; σ: all else ===== -/
def m0_fs (ad : Nat → Nat) (T r g : Nat → Int32) : List Value := [.int (T 1), .ref (ad 1), .ref (ad 2), .ref (ad 3), .int (T 2), .ref (ad 4), .int (g 6), .ref (ad 5), .ref (ad 6), .int (g 9), .int (T 3), .int (g 11), .ref (ad 7), .ref (ad 8), .ref (ad 9), .ref (ad 10), .ref (ad 11), .ref (ad 12), .int (g 18), .int (g 19), .int (g 20), .int (g 21), .ref (ad 13), .ref (ad 14), .int (g 24), .int (g 25), .int (g 26), .ref (ad 15), .ref (ad 16), .ref (ad 17), .int (r 30)]
def ment (ad : Nat → Nat) (cA : ClassId) (ρ T σ : Nat → Nat → Int32) (o : Nat) : va_E :=
  if o = 0 then .inr (8, m0_fs ad (T 6) (ρ 0) (σ 0)) else if o = 1 then .inl (cA, 6, .inl (fun i => if i < 6 then T i 0 else 0)) else if o = 2 then .inl (cA, 6, .inl (fun i => if i < 6 then T i 1 else 0)) else if o = 3 then .inl (cA, 30, .inl (fun i => if i < 30 then T (i / 5) (2 + i % 5) else 0))
  else if o = 15 then .inl (cA, 200, .inl (ρ 15)) else if o = 16 then .inl (cA, 6, .inl (ρ 16)) else if o = 17 then .inl (cA, 31, .inl (ρ 17))
  else .inl (cA, (if o = 4 then 160 else if o = 5 then 1200 else if o = 6 then 24 else if o = 7 then 30 else if o = 8 then 3 else if o = 9 then 4 else if o = 10 then 4 else if o = 11 then 160 else if o = 12 then 29 else if o = 13 then 96 else 200), .inl (σ o))
abbrev mtys (cA : ClassId) : List (ClassId × FieldType) := [(cA, .int)]
abbrev MW (D : va_G) (cA : ClassId) (ad : Nat → Nat) (ρ T σ : Nat → Nat → Int32) (A : Nat → Prop) (s : State) (H0 H : Heap) (locs : List Loc) : Prop := GW D (mtys cA) 18 ad (ment ad cA ρ T σ) A s H0 H locs
section MEL
variable {cA : ClassId} {ad : Nat → Nat} {ρ T σ : Nat → Nat → Int32}
theorem mn_σ {k : Nat} {v : Int32} {o : Nat} : ∀ q, q ≠ o → ment ad cA ρ T (upR σ o k v) q = ment ad cA ρ T σ q := by
  intro q hq
  have h1 : upR σ o k v q = σ q := va_up_ne _ _ hq
  unfold ment
  by_cases h0 : q = 0
  · subst h0; rw [h1]
  · rw [if_neg h0, if_neg h0, h1]
theorem mn_ρ {k : Nat} {v : Int32} {o : Nat} : ∀ q, q ≠ o → ment ad cA (upR ρ o k v) T σ q = ment ad cA ρ T σ q := by
  intro q hq
  have hz : ∀ z, q = z → upR ρ o k v z = ρ z := fun z hz => by subst hz; exact va_up_ne _ _ hq
  unfold ment
  by_cases h0 : q = 0
  · subst h0; rw [hz 0 rfl]; rfl
  · by_cases h1 : q = 15
    · subst h1; rw [hz 15 rfl]; rfl
    · by_cases h2 : q = 16
      · subst h2; rw [hz 16 rfl]; rfl
      · by_cases h3 : q = 17
        · subst h3; rw [hz 17 rfl]; rfl
        · simp only [h0, h1, h2, h3, if_false]
theorem upT_ne {T : Nat → Nat → Int32} {r k z j : Nat} {v : Int32} (h : ¬ (z = r ∧ j = k)) : upT T r k v z j = T z j := by
  by_cases hz : z = r
  · subst hz; rw [upT_self]; exact pk_un (fun e => h ⟨rfl, e⟩)
  · show va_up T r (upd (T r) k v) z j = T z j
    rw [va_up_ne _ _ hz]
theorem upT_at {T : Nat → Nat → Int32} {r k : Nat} {v : Int32} : upT T r k v r k = v := by rw [upT_self]; exact pk_us
theorem mn_T {r k o : Nat} {v : Int32} (h : (r = 6 ∧ o = 0) ∨ (r < 6 ∧ k = 0 ∧ o = 1) ∨ (r < 6 ∧ k = 1 ∧ o = 2) ∨ (r < 6 ∧ 2 ≤ k ∧ o = 3)) : ∀ q, q ≠ o → ment ad cA ρ (upT T r k v) σ q = ment ad cA ρ T σ q := by
  intro q hq
  unfold ment
  by_cases h0 : q = 0
  · subst h0
    rw [if_pos rfl, if_pos rfl, show upT T r k v 6 = T 6 from va_up_ne _ _ (by omega)]
  · rw [if_neg h0, if_neg h0]
    by_cases h1 : q = 1
    · subst h1
      rw [if_pos rfl, if_pos rfl]
      congr 4
      funext i
      by_cases hi : i < 6
      · rw [if_pos hi, if_pos hi]; exact upT_ne (by omega)
      · rw [if_neg hi, if_neg hi]
    · rw [if_neg h1, if_neg h1]
      by_cases h2 : q = 2
      · subst h2
        rw [if_pos rfl, if_pos rfl]
        congr 4
        funext i
        by_cases hi : i < 6
        · rw [if_pos hi, if_pos hi]; exact upT_ne (by omega)
        · rw [if_neg hi, if_neg hi]
      · rw [if_neg h2, if_neg h2]
        by_cases h3 : q = 3
        · subst h3
          rw [if_pos rfl, if_pos rfl]
          congr 4
          funext i
          by_cases hi : i < 30
          · rw [if_pos hi, if_pos hi]; exact upT_ne (by omega)
          · rw [if_neg hi, if_neg hi]
        · rw [if_neg h3, if_neg h3]
theorem m0_setT (ad : Nat → Nat) (t r g : Nat → Int32) (v : Int32) {k j : Nat} (h : (k = 0 ∧ j = 1) ∨ (k = 4 ∧ j = 2) ∨ (k = 10 ∧ j = 3)) : (m0_fs ad t r g).set k (.int v) = m0_fs ad (upd t j v) r g := by
  rcases h with ⟨rfl, rfl⟩ | ⟨rfl, rfl⟩ | ⟨rfl, rfl⟩ <;> rfl
end MEL
section MRO
variable {p : Program} {l : Launch} {e : Env} {R : Room} {s : State} {m : MethodId} {args : Array Value} {below : List Frame} {meth : Method} {c : Code} {H H0 : Heap} {locs : List Loc} {cells slots : Nat} {Q : State → Prop}
variable {cc : ByteArray} {pc nL idx : Nat} {ls : Array Slot} {rest : List Value} {D : va_G} {A : Nat → Prop} {cA : ClassId} {ad : Nat → Nat} {own : String}
variable {ρ σ T : Nat → Nat → Int32}


theorem mr_f (F : CallFix p m c cc nL s args TBL own) (hW : MW D cA ad ρ T σ A s H0 H locs) (k : Nat) {v : Value} (hk : k < 31) (hv : (m0_fs ad (T 6) (ρ 0) (σ 0))[k]? = some v) (hl : Cond.fieldLink own idx (TX8 k).1 (TX8 k).2.1 (TX8 k).2.2.1 ∈ TBL) (hdg : decode cc pc = .ok (.getfield idx, 3))
    (kk : W p l e R s m args below meth c H locs cells slots Q (F0 m (pc + 3) ls (v :: rest))) : W p l e R s m args below meth c H locs cells slots Q (F0 m pc ls (.ref (ad 0) :: rest)) :=
  gw_getf F hW (by omega) rfl (C := RX8) (T := TX8) (n := 31) rfl in_RX8 k hk hl hv hdg kk
theorem mw_σ {v : Int32} {ty : FieldType} (F : CallFix p m c cc nL s args TBL own) (hW : MW D cA ad ρ T σ A s H0 H locs) (k : Nat) (hk : k < 31) (hl : Cond.fieldLink own idx (TX8 k).1 (TX8 k).2.1 (TX8 k).2.2.1 ∈ TBL) (hfin : (TX8 k).2.2.2 = false) (htk : tyX8 k = ty) (hn : narrow ty (.int v) = .int v) (hfit : fits ty (.int v) = true) (hs : (m0_fs ad (T 6) (ρ 0) (σ 0)).set k (.int v) = m0_fs ad (T 6) (ρ 0) (upd (σ 0) k v)) (hdg : decode cc pc = .ok (.putfield idx, 3))
    (kk : ∀ (H1 : Heap) (locs1 : List Loc), MW D cA ad ρ T (upR σ 0 k v) A s H0 H1 locs1 → W p l e R s m args below meth c H1 locs1 cells slots Q (F0 m (pc + 3) ls rest)) : W p l e R s m args below meth c H locs cells slots Q (F0 m pc ls (.int v :: .ref (ad 0) :: rest)) :=
  gw_putf F hW (by omega) rfl (C := RX8) (T := TX8) (n := 31) rfl in_RX8 tyX8 tyX8_ok nmX8 k hk hl hfin htk hn hfit hk rfl (by rw [upR_self]; exact hs) mn_σ hdg kk
theorem mw_ρ {v : Int32} (F : CallFix p m c cc nL s args TBL own) (hW : MW D cA ad ρ T σ A s H0 H locs) (hl : Cond.fieldLink own idx (TX8 30).1 (TX8 30).2.1 (TX8 30).2.2.1 ∈ TBL) (hdg : decode cc pc = .ok (.putfield idx, 3))
    (kk : ∀ (H1 : Heap) (locs1 : List Loc), MW D cA ad (upR ρ 0 30 v) T σ A s H0 H1 locs1 → W p l e R s m args below meth c H1 locs1 cells slots Q (F0 m (pc + 3) ls rest)) : W p l e R s m args below meth c H locs cells slots Q (F0 m pc ls (.int v :: .ref (ad 0) :: rest)) :=
  gw_putf F hW (by omega) rfl (C := RX8) (T := TX8) (n := 31) rfl in_RX8 tyX8 tyX8_ok nmX8 30 (by decide) hl rfl (ty := .int) rfl rfl rfl (by show 30 < 31; decide) rfl (by rw [upR_self]; rfl) mn_ρ hdg kk
theorem mw_T {v : Int32} {j : Nat} (F : CallFix p m c cc nL s args TBL own) (hW : MW D cA ad ρ T σ A s H0 H locs) (k : Nat) (hkj : (k = 0 ∧ j = 1) ∨ (k = 4 ∧ j = 2) ∨ (k = 10 ∧ j = 3)) (hl : Cond.fieldLink own idx (TX8 k).1 (TX8 k).2.1 (TX8 k).2.2.1 ∈ TBL) (hdg : decode cc pc = .ok (.putfield idx, 3))
    (kk : ∀ (H1 : Heap) (locs1 : List Loc), MW D cA ad ρ (upT T 6 j v) σ A s H0 H1 locs1 → W p l e R s m args below meth c H1 locs1 cells slots Q (F0 m (pc + 3) ls rest)) : W p l e R s m args below meth c H locs cells slots Q (F0 m pc ls (.int v :: .ref (ad 0) :: rest)) :=
  gw_putf F hW (by omega) rfl (C := RX8) (T := TX8) (n := 31) rfl in_RX8 tyX8 tyX8_ok nmX8 k (by omega) hl (by rcases hkj with ⟨rfl, rfl⟩ | ⟨rfl, rfl⟩ | ⟨rfl, rfl⟩ <;> rfl) (ty := .int) (by rcases hkj with ⟨rfl, rfl⟩ | ⟨rfl, rfl⟩ | ⟨rfl, rfl⟩ <;> rfl) rfl rfl (by show k < 31; omega) rfl (by rw [upT_self]; exact m0_setT _ _ _ _ _ hkj) (mn_T (Or.inl ⟨rfl, rfl⟩)) hdg kk
theorem mi_ix {q n : Nat} (h : q < n) (hn : n < 2 ^ 31) : vp_in (nI q) n ∧ (nI q).toNatClampNeg = q := ⟨vp_in_nI h hn, nI_clamp (by omega)⟩
/-- a guest's place in rows, kind, moreOf -/
theorem mr_rows {i : Int32} (q k : Nat) (hq : q < 6) (hk : k < 5) (hi : i = nI (5 * q + k)) (F : CallFix p m c cc nL s args TBL own) (hW : MW D cA ad ρ T σ A s H0 H locs) (hdg : decode cc pc = .ok (.iaload, 1))
    (kk : W p l e R s m args below meth c H locs cells slots Q (F0 m (pc + 1) ls (.int (T q (2 + k)) :: rest))) : W p l e R s m args below meth c H locs cells slots Q (F0 m pc ls (.int i :: .ref (ad 3) :: rest)) := by
  subst hi
  obtain ⟨h1, h2⟩ := mi_ix (q := 5 * q + k) (n := 30) (by omega) (by decide)
  refine gw_iald F hW (by omega) rfl (t0 := 0) rfl h1 hdg ?_
  rw [h2, if_pos (show 5 * q + k < 30 by omega), show (5 * q + k) / 5 = q by omega, show (5 * q + k) % 5 = k by omega]
  exact kk
theorem mw_rows {i x : Int32} (q k : Nat) (hq : q < 6) (hk : k < 5) (hi : i = nI (5 * q + k)) (F : CallFix p m c cc nL s args TBL own) (hW : MW D cA ad ρ T σ A s H0 H locs) (hdg : decode cc pc = .ok (.iastore, 1))
    (kk : ∀ (H1 : Heap) (locs1 : List Loc), MW D cA ad ρ (upT T q (2 + k) x) σ A s H0 H1 locs1 → W p l e R s m args below meth c H1 locs1 cells slots Q (F0 m (pc + 1) ls rest)) : W p l e R s m args below meth c H locs cells slots Q (F0 m pc ls (.int x :: .int i :: .ref (ad 3) :: rest)) := by
  subst hi
  obtain ⟨h1, h2⟩ := mi_ix (q := 5 * q + k) (n := 30) (by omega) (by decide)
  refine gw_iast (g := ment ad cA ρ (upT T q (2 + k) x) σ) F hW (by omega) rfl (t0 := 0) rfl h1 ?_ (mn_T (by omega)) hdg kk
  rw [h2]
  show Sum.inl (cA, 30, Sum.inl _) = Sum.inl (cA, 30, Sum.inl _)
  congr 4
  funext j
  by_cases hj : j = 5 * q + k
  · subst hj
    rw [pk_us, if_pos (show 5 * q + k < 30 by omega), show (5 * q + k) / 5 = q by omega, show (5 * q + k) % 5 = k by omega, upT_at]
  · rw [pk_un hj]
    by_cases hl : j < 30
    · rw [if_pos hl, if_pos hl, upT_ne (by omega)]
    · rw [if_neg hl, if_neg hl]
theorem mr_kind {i : Int32} (q : Nat) (hq : q < 6) (hi : i = nI q) (F : CallFix p m c cc nL s args TBL own) (hW : MW D cA ad ρ T σ A s H0 H locs) (hdg : decode cc pc = .ok (.iaload, 1))
    (kk : W p l e R s m args below meth c H locs cells slots Q (F0 m (pc + 1) ls (.int (T q 0) :: rest))) : W p l e R s m args below meth c H locs cells slots Q (F0 m pc ls (.int i :: .ref (ad 1) :: rest)) := by
  subst hi
  obtain ⟨h1, h2⟩ := mi_ix (q := q) (n := 6) (by omega) (by decide)
  refine gw_iald F hW (by omega) rfl (t0 := 0) rfl h1 hdg ?_
  rw [h2, if_pos hq]
  exact kk
theorem mw_kind {i x : Int32} (q : Nat) (hq : q < 6) (hi : i = nI q) (F : CallFix p m c cc nL s args TBL own) (hW : MW D cA ad ρ T σ A s H0 H locs) (hdg : decode cc pc = .ok (.iastore, 1))
    (kk : ∀ (H1 : Heap) (locs1 : List Loc), MW D cA ad ρ (upT T q 0 x) σ A s H0 H1 locs1 → W p l e R s m args below meth c H1 locs1 cells slots Q (F0 m (pc + 1) ls rest)) : W p l e R s m args below meth c H locs cells slots Q (F0 m pc ls (.int x :: .int i :: .ref (ad 1) :: rest)) := by
  subst hi
  obtain ⟨h1, h2⟩ := mi_ix (q := q) (n := 6) (by omega) (by decide)
  refine gw_iast (g := ment ad cA ρ (upT T q 0 x) σ) F hW (by omega) rfl (t0 := 0) rfl h1 ?_ (mn_T (by omega)) hdg kk
  rw [h2]
  show Sum.inl (cA, 6, Sum.inl _) = Sum.inl (cA, 6, Sum.inl _)
  congr 4
  funext j
  by_cases hj : j = q
  · subst hj
    rw [pk_us, if_pos hq, upT_at]
  · rw [pk_un hj]
    by_cases hl : j < 6
    · rw [if_pos hl, if_pos hl, upT_ne (by omega)]
    · rw [if_neg hl, if_neg hl]
theorem mr_more {i : Int32} (q : Nat) (hq : q < 6) (hi : i = nI q) (F : CallFix p m c cc nL s args TBL own) (hW : MW D cA ad ρ T σ A s H0 H locs) (hdg : decode cc pc = .ok (.iaload, 1))
    (kk : W p l e R s m args below meth c H locs cells slots Q (F0 m (pc + 1) ls (.int (T q 1) :: rest))) : W p l e R s m args below meth c H locs cells slots Q (F0 m pc ls (.int i :: .ref (ad 2) :: rest)) := by
  subst hi
  obtain ⟨h1, h2⟩ := mi_ix (q := q) (n := 6) (by omega) (by decide)
  refine gw_iald F hW (by omega) rfl (t0 := 0) rfl h1 hdg ?_
  rw [h2, if_pos hq]
  exact kk
theorem mw_more {i x : Int32} (q : Nat) (hq : q < 6) (hi : i = nI q) (F : CallFix p m c cc nL s args TBL own) (hW : MW D cA ad ρ T σ A s H0 H locs) (hdg : decode cc pc = .ok (.iastore, 1))
    (kk : ∀ (H1 : Heap) (locs1 : List Loc), MW D cA ad ρ (upT T q 1 x) σ A s H0 H1 locs1 → W p l e R s m args below meth c H1 locs1 cells slots Q (F0 m (pc + 1) ls rest)) : W p l e R s m args below meth c H locs cells slots Q (F0 m pc ls (.int x :: .int i :: .ref (ad 2) :: rest)) := by
  subst hi
  obtain ⟨h1, h2⟩ := mi_ix (q := q) (n := 6) (by omega) (by decide)
  refine gw_iast (g := ment ad cA ρ (upT T q 1 x) σ) F hW (by omega) rfl (t0 := 0) rfl h1 ?_ (mn_T (by omega)) hdg kk
  rw [h2]
  show Sum.inl (cA, 6, Sum.inl _) = Sum.inl (cA, 6, Sum.inl _)
  congr 4
  funext j
  by_cases hj : j = q
  · subst hj
    rw [pk_us, if_pos hq, upT_at]
  · rw [pk_un hj]
    by_cases hl : j < 6
    · rw [if_pos hl, if_pos hl, upT_ne (by omega)]
    · rw [if_neg hl, if_neg hl]
theorem mr_tape {i : Int32} (F : CallFix p m c cc nL s args TBL own) (hW : MW D cA ad ρ T σ A s H0 H locs) (hin : vp_in i 160) (hdg : decode cc pc = .ok (.iaload, 1))
    (kk : W p l e R s m args below meth c H locs cells slots Q (F0 m (pc + 1) ls (.int (σ 4 i.toNatClampNeg) :: rest))) : W p l e R s m args below meth c H locs cells slots Q (F0 m pc ls (.int i :: .ref (ad 4) :: rest)) :=
  gw_iald F hW (by omega) rfl (t0 := 0) rfl hin hdg kk
theorem mw_tape {i x : Int32} (F : CallFix p m c cc nL s args TBL own) (hW : MW D cA ad ρ T σ A s H0 H locs) (hin : vp_in i 160) (hdg : decode cc pc = .ok (.iastore, 1))
    (kk : ∀ (H1 : Heap) (locs1 : List Loc), MW D cA ad ρ T (upR σ 4 i.toNatClampNeg x) A s H0 H1 locs1 → W p l e R s m args below meth c H1 locs1 cells slots Q (F0 m (pc + 1) ls rest)) : W p l e R s m args below meth c H locs cells slots Q (F0 m pc ls (.int x :: .int i :: .ref (ad 4) :: rest)) :=
  gw_iast F hW (by omega) rfl (t0 := 0) rfl hin (by rw [← upR_self (T := σ)]; rfl) mn_σ hdg kk
theorem mr_codes {i : Int32} (F : CallFix p m c cc nL s args TBL own) (hW : MW D cA ad ρ T σ A s H0 H locs) (hin : vp_in i 1200) (hdg : decode cc pc = .ok (.iaload, 1))
    (kk : W p l e R s m args below meth c H locs cells slots Q (F0 m (pc + 1) ls (.int (σ 5 i.toNatClampNeg) :: rest))) : W p l e R s m args below meth c H locs cells slots Q (F0 m pc ls (.int i :: .ref (ad 5) :: rest)) :=
  gw_iald F hW (by omega) rfl (t0 := 0) rfl hin hdg kk
theorem mw_codes {i x : Int32} (F : CallFix p m c cc nL s args TBL own) (hW : MW D cA ad ρ T σ A s H0 H locs) (hin : vp_in i 1200) (hdg : decode cc pc = .ok (.iastore, 1))
    (kk : ∀ (H1 : Heap) (locs1 : List Loc), MW D cA ad ρ T (upR σ 5 i.toNatClampNeg x) A s H0 H1 locs1 → W p l e R s m args below meth c H1 locs1 cells slots Q (F0 m (pc + 1) ls rest)) : W p l e R s m args below meth c H locs cells slots Q (F0 m pc ls (.int x :: .int i :: .ref (ad 5) :: rest)) :=
  gw_iast F hW (by omega) rfl (t0 := 0) rfl hin (by rw [← upR_self (T := σ)]; rfl) mn_σ hdg kk
theorem mr_starts {i : Int32} (F : CallFix p m c cc nL s args TBL own) (hW : MW D cA ad ρ T σ A s H0 H locs) (hin : vp_in i 24) (hdg : decode cc pc = .ok (.iaload, 1))
    (kk : W p l e R s m args below meth c H locs cells slots Q (F0 m (pc + 1) ls (.int (σ 6 i.toNatClampNeg) :: rest))) : W p l e R s m args below meth c H locs cells slots Q (F0 m pc ls (.int i :: .ref (ad 6) :: rest)) :=
  gw_iald F hW (by omega) rfl (t0 := 0) rfl hin hdg kk
theorem mw_starts {i x : Int32} (F : CallFix p m c cc nL s args TBL own) (hW : MW D cA ad ρ T σ A s H0 H locs) (hin : vp_in i 24) (hdg : decode cc pc = .ok (.iastore, 1))
    (kk : ∀ (H1 : Heap) (locs1 : List Loc), MW D cA ad ρ T (upR σ 6 i.toNatClampNeg x) A s H0 H1 locs1 → W p l e R s m args below meth c H1 locs1 cells slots Q (F0 m (pc + 1) ls rest)) : W p l e R s m args below meth c H locs cells slots Q (F0 m pc ls (.int x :: .int i :: .ref (ad 6) :: rest)) :=
  gw_iast F hW (by omega) rfl (t0 := 0) rfl hin (by rw [← upR_self (T := σ)]; rfl) mn_σ hdg kk
theorem mr_imageRows {i : Int32} (F : CallFix p m c cc nL s args TBL own) (hW : MW D cA ad ρ T σ A s H0 H locs) (hin : vp_in i 30) (hdg : decode cc pc = .ok (.iaload, 1))
    (kk : W p l e R s m args below meth c H locs cells slots Q (F0 m (pc + 1) ls (.int (σ 7 i.toNatClampNeg) :: rest))) : W p l e R s m args below meth c H locs cells slots Q (F0 m pc ls (.int i :: .ref (ad 7) :: rest)) :=
  gw_iald F hW (by omega) rfl (t0 := 0) rfl hin hdg kk
theorem mw_imageRows {i x : Int32} (F : CallFix p m c cc nL s args TBL own) (hW : MW D cA ad ρ T σ A s H0 H locs) (hin : vp_in i 30) (hdg : decode cc pc = .ok (.iastore, 1))
    (kk : ∀ (H1 : Heap) (locs1 : List Loc), MW D cA ad ρ T (upR σ 7 i.toNatClampNeg x) A s H0 H1 locs1 → W p l e R s m args below meth c H1 locs1 cells slots Q (F0 m (pc + 1) ls rest)) : W p l e R s m args below meth c H locs cells slots Q (F0 m pc ls (.int x :: .int i :: .ref (ad 7) :: rest)) :=
  gw_iast F hW (by omega) rfl (t0 := 0) rfl hin (by rw [← upR_self (T := σ)]; rfl) mn_σ hdg kk
theorem mr_imageHeld {i : Int32} (F : CallFix p m c cc nL s args TBL own) (hW : MW D cA ad ρ T σ A s H0 H locs) (hin : vp_in i 3) (hdg : decode cc pc = .ok (.iaload, 1))
    (kk : W p l e R s m args below meth c H locs cells slots Q (F0 m (pc + 1) ls (.int (σ 8 i.toNatClampNeg) :: rest))) : W p l e R s m args below meth c H locs cells slots Q (F0 m pc ls (.int i :: .ref (ad 8) :: rest)) :=
  gw_iald F hW (by omega) rfl (t0 := 0) rfl hin hdg kk
theorem mw_imageHeld {i x : Int32} (F : CallFix p m c cc nL s args TBL own) (hW : MW D cA ad ρ T σ A s H0 H locs) (hin : vp_in i 3) (hdg : decode cc pc = .ok (.iastore, 1))
    (kk : ∀ (H1 : Heap) (locs1 : List Loc), MW D cA ad ρ T (upR σ 8 i.toNatClampNeg x) A s H0 H1 locs1 → W p l e R s m args below meth c H1 locs1 cells slots Q (F0 m (pc + 1) ls rest)) : W p l e R s m args below meth c H locs cells slots Q (F0 m pc ls (.int x :: .int i :: .ref (ad 8) :: rest)) :=
  gw_iast F hW (by omega) rfl (t0 := 0) rfl hin (by rw [← upR_self (T := σ)]; rfl) mn_σ hdg kk
theorem mr_sheetSort {i : Int32} (F : CallFix p m c cc nL s args TBL own) (hW : MW D cA ad ρ T σ A s H0 H locs) (hin : vp_in i 4) (hdg : decode cc pc = .ok (.iaload, 1))
    (kk : W p l e R s m args below meth c H locs cells slots Q (F0 m (pc + 1) ls (.int (σ 9 i.toNatClampNeg) :: rest))) : W p l e R s m args below meth c H locs cells slots Q (F0 m pc ls (.int i :: .ref (ad 9) :: rest)) :=
  gw_iald F hW (by omega) rfl (t0 := 0) rfl hin hdg kk
theorem mw_sheetSort {i x : Int32} (F : CallFix p m c cc nL s args TBL own) (hW : MW D cA ad ρ T σ A s H0 H locs) (hin : vp_in i 4) (hdg : decode cc pc = .ok (.iastore, 1))
    (kk : ∀ (H1 : Heap) (locs1 : List Loc), MW D cA ad ρ T (upR σ 9 i.toNatClampNeg x) A s H0 H1 locs1 → W p l e R s m args below meth c H1 locs1 cells slots Q (F0 m (pc + 1) ls rest)) : W p l e R s m args below meth c H locs cells slots Q (F0 m pc ls (.int x :: .int i :: .ref (ad 9) :: rest)) :=
  gw_iast F hW (by omega) rfl (t0 := 0) rfl hin (by rw [← upR_self (T := σ)]; rfl) mn_σ hdg kk
theorem mr_sheetSize {i : Int32} (F : CallFix p m c cc nL s args TBL own) (hW : MW D cA ad ρ T σ A s H0 H locs) (hin : vp_in i 4) (hdg : decode cc pc = .ok (.iaload, 1))
    (kk : W p l e R s m args below meth c H locs cells slots Q (F0 m (pc + 1) ls (.int (σ 10 i.toNatClampNeg) :: rest))) : W p l e R s m args below meth c H locs cells slots Q (F0 m pc ls (.int i :: .ref (ad 10) :: rest)) :=
  gw_iald F hW (by omega) rfl (t0 := 0) rfl hin hdg kk
theorem mw_sheetSize {i x : Int32} (F : CallFix p m c cc nL s args TBL own) (hW : MW D cA ad ρ T σ A s H0 H locs) (hin : vp_in i 4) (hdg : decode cc pc = .ok (.iastore, 1))
    (kk : ∀ (H1 : Heap) (locs1 : List Loc), MW D cA ad ρ T (upR σ 10 i.toNatClampNeg x) A s H0 H1 locs1 → W p l e R s m args below meth c H1 locs1 cells slots Q (F0 m (pc + 1) ls rest)) : W p l e R s m args below meth c H locs cells slots Q (F0 m pc ls (.int x :: .int i :: .ref (ad 10) :: rest)) :=
  gw_iast F hW (by omega) rfl (t0 := 0) rfl hin (by rw [← upR_self (T := σ)]; rfl) mn_σ hdg kk
theorem mr_cells {i : Int32} (F : CallFix p m c cc nL s args TBL own) (hW : MW D cA ad ρ T σ A s H0 H locs) (hin : vp_in i 160) (hdg : decode cc pc = .ok (.iaload, 1))
    (kk : W p l e R s m args below meth c H locs cells slots Q (F0 m (pc + 1) ls (.int (σ 11 i.toNatClampNeg) :: rest))) : W p l e R s m args below meth c H locs cells slots Q (F0 m pc ls (.int i :: .ref (ad 11) :: rest)) :=
  gw_iald F hW (by omega) rfl (t0 := 0) rfl hin hdg kk
theorem mw_cells {i x : Int32} (F : CallFix p m c cc nL s args TBL own) (hW : MW D cA ad ρ T σ A s H0 H locs) (hin : vp_in i 160) (hdg : decode cc pc = .ok (.iastore, 1))
    (kk : ∀ (H1 : Heap) (locs1 : List Loc), MW D cA ad ρ T (upR σ 11 i.toNatClampNeg x) A s H0 H1 locs1 → W p l e R s m args below meth c H1 locs1 cells slots Q (F0 m (pc + 1) ls rest)) : W p l e R s m args below meth c H locs cells slots Q (F0 m pc ls (.int x :: .int i :: .ref (ad 11) :: rest)) :=
  gw_iast F hW (by omega) rfl (t0 := 0) rfl hin (by rw [← upR_self (T := σ)]; rfl) mn_σ hdg kk
theorem mr_law {i : Int32} (F : CallFix p m c cc nL s args TBL own) (hW : MW D cA ad ρ T σ A s H0 H locs) (hin : vp_in i 29) (hdg : decode cc pc = .ok (.iaload, 1))
    (kk : W p l e R s m args below meth c H locs cells slots Q (F0 m (pc + 1) ls (.int (σ 12 i.toNatClampNeg) :: rest))) : W p l e R s m args below meth c H locs cells slots Q (F0 m pc ls (.int i :: .ref (ad 12) :: rest)) :=
  gw_iald F hW (by omega) rfl (t0 := 0) rfl hin hdg kk
theorem mw_law {i x : Int32} (F : CallFix p m c cc nL s args TBL own) (hW : MW D cA ad ρ T σ A s H0 H locs) (hin : vp_in i 29) (hdg : decode cc pc = .ok (.iastore, 1))
    (kk : ∀ (H1 : Heap) (locs1 : List Loc), MW D cA ad ρ T (upR σ 12 i.toNatClampNeg x) A s H0 H1 locs1 → W p l e R s m args below meth c H1 locs1 cells slots Q (F0 m (pc + 1) ls rest)) : W p l e R s m args below meth c H locs cells slots Q (F0 m pc ls (.int x :: .int i :: .ref (ad 12) :: rest)) :=
  gw_iast F hW (by omega) rfl (t0 := 0) rfl hin (by rw [← upR_self (T := σ)]; rfl) mn_σ hdg kk
theorem mr_words {i : Int32} (F : CallFix p m c cc nL s args TBL own) (hW : MW D cA ad ρ T σ A s H0 H locs) (hin : vp_in i 96) (hdg : decode cc pc = .ok (.iaload, 1))
    (kk : W p l e R s m args below meth c H locs cells slots Q (F0 m (pc + 1) ls (.int (σ 13 i.toNatClampNeg) :: rest))) : W p l e R s m args below meth c H locs cells slots Q (F0 m pc ls (.int i :: .ref (ad 13) :: rest)) :=
  gw_iald F hW (by omega) rfl (t0 := 0) rfl hin hdg kk
theorem mw_words {i x : Int32} (F : CallFix p m c cc nL s args TBL own) (hW : MW D cA ad ρ T σ A s H0 H locs) (hin : vp_in i 96) (hdg : decode cc pc = .ok (.iastore, 1))
    (kk : ∀ (H1 : Heap) (locs1 : List Loc), MW D cA ad ρ T (upR σ 13 i.toNatClampNeg x) A s H0 H1 locs1 → W p l e R s m args below meth c H1 locs1 cells slots Q (F0 m (pc + 1) ls rest)) : W p l e R s m args below meth c H locs cells slots Q (F0 m pc ls (.int x :: .int i :: .ref (ad 13) :: rest)) :=
  gw_iast F hW (by omega) rfl (t0 := 0) rfl hin (by rw [← upR_self (T := σ)]; rfl) mn_σ hdg kk
theorem mr_held {i : Int32} (F : CallFix p m c cc nL s args TBL own) (hW : MW D cA ad ρ T σ A s H0 H locs) (hin : vp_in i 200) (hdg : decode cc pc = .ok (.iaload, 1))
    (kk : W p l e R s m args below meth c H locs cells slots Q (F0 m (pc + 1) ls (.int (σ 14 i.toNatClampNeg) :: rest))) : W p l e R s m args below meth c H locs cells slots Q (F0 m pc ls (.int i :: .ref (ad 14) :: rest)) :=
  gw_iald F hW (by omega) rfl (t0 := 0) rfl hin hdg kk
theorem mw_held {i x : Int32} (F : CallFix p m c cc nL s args TBL own) (hW : MW D cA ad ρ T σ A s H0 H locs) (hin : vp_in i 200) (hdg : decode cc pc = .ok (.iastore, 1))
    (kk : ∀ (H1 : Heap) (locs1 : List Loc), MW D cA ad ρ T (upR σ 14 i.toNatClampNeg x) A s H0 H1 locs1 → W p l e R s m args below meth c H1 locs1 cells slots Q (F0 m (pc + 1) ls rest)) : W p l e R s m args below meth c H locs cells slots Q (F0 m pc ls (.int x :: .int i :: .ref (ad 14) :: rest)) :=
  gw_iast F hW (by omega) rfl (t0 := 0) rfl hin (by rw [← upR_self (T := σ)]; rfl) mn_σ hdg kk
theorem mr_stack {i : Int32} (F : CallFix p m c cc nL s args TBL own) (hW : MW D cA ad ρ T σ A s H0 H locs) (hin : vp_in i 200) (hdg : decode cc pc = .ok (.iaload, 1))
    (kk : W p l e R s m args below meth c H locs cells slots Q (F0 m (pc + 1) ls (.int (ρ 15 i.toNatClampNeg) :: rest))) : W p l e R s m args below meth c H locs cells slots Q (F0 m pc ls (.int i :: .ref (ad 15) :: rest)) :=
  gw_iald F hW (by omega) rfl (t0 := 0) rfl hin hdg kk
theorem mw_stack {i x : Int32} (F : CallFix p m c cc nL s args TBL own) (hW : MW D cA ad ρ T σ A s H0 H locs) (hin : vp_in i 200) (hdg : decode cc pc = .ok (.iastore, 1))
    (kk : ∀ (H1 : Heap) (locs1 : List Loc), MW D cA ad (upR ρ 15 i.toNatClampNeg x) T σ A s H0 H1 locs1 → W p l e R s m args below meth c H1 locs1 cells slots Q (F0 m (pc + 1) ls rest)) : W p l e R s m args below meth c H locs cells slots Q (F0 m pc ls (.int x :: .int i :: .ref (ad 15) :: rest)) :=
  gw_iast F hW (by omega) rfl (t0 := 0) rfl hin (by rw [← upR_self (T := ρ)]; rfl) mn_ρ hdg kk
theorem mr_named {i : Int32} (F : CallFix p m c cc nL s args TBL own) (hW : MW D cA ad ρ T σ A s H0 H locs) (hin : vp_in i 6) (hdg : decode cc pc = .ok (.iaload, 1))
    (kk : W p l e R s m args below meth c H locs cells slots Q (F0 m (pc + 1) ls (.int (ρ 16 i.toNatClampNeg) :: rest))) : W p l e R s m args below meth c H locs cells slots Q (F0 m pc ls (.int i :: .ref (ad 16) :: rest)) :=
  gw_iald F hW (by omega) rfl (t0 := 0) rfl hin hdg kk
theorem mw_named {i x : Int32} (F : CallFix p m c cc nL s args TBL own) (hW : MW D cA ad ρ T σ A s H0 H locs) (hin : vp_in i 6) (hdg : decode cc pc = .ok (.iastore, 1))
    (kk : ∀ (H1 : Heap) (locs1 : List Loc), MW D cA ad (upR ρ 16 i.toNatClampNeg x) T σ A s H0 H1 locs1 → W p l e R s m args below meth c H1 locs1 cells slots Q (F0 m (pc + 1) ls rest)) : W p l e R s m args below meth c H locs cells slots Q (F0 m pc ls (.int x :: .int i :: .ref (ad 16) :: rest)) :=
  gw_iast F hW (by omega) rfl (t0 := 0) rfl hin (by rw [← upR_self (T := ρ)]; rfl) mn_ρ hdg kk
theorem mr_kept {i : Int32} (F : CallFix p m c cc nL s args TBL own) (hW : MW D cA ad ρ T σ A s H0 H locs) (hin : vp_in i 31) (hdg : decode cc pc = .ok (.iaload, 1))
    (kk : W p l e R s m args below meth c H locs cells slots Q (F0 m (pc + 1) ls (.int (ρ 17 i.toNatClampNeg) :: rest))) : W p l e R s m args below meth c H locs cells slots Q (F0 m pc ls (.int i :: .ref (ad 17) :: rest)) :=
  gw_iald F hW (by omega) rfl (t0 := 0) rfl hin hdg kk
theorem mw_kept {i x : Int32} (F : CallFix p m c cc nL s args TBL own) (hW : MW D cA ad ρ T σ A s H0 H locs) (hin : vp_in i 31) (hdg : decode cc pc = .ok (.iastore, 1))
    (kk : ∀ (H1 : Heap) (locs1 : List Loc), MW D cA ad (upR ρ 17 i.toNatClampNeg x) T σ A s H0 H1 locs1 → W p l e R s m args below meth c H1 locs1 cells slots Q (F0 m (pc + 1) ls rest)) : W p l e R s m args below meth c H locs cells slots Q (F0 m pc ls (.int x :: .int i :: .ref (ad 17) :: rest)) :=
  gw_iast F hW (by omega) rfl (t0 := 0) rfl hin (by rw [← upR_self (T := ρ)]; rfl) mn_ρ hdg kk
end MRO
