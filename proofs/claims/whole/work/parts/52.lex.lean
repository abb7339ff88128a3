/-! ===== the tape: its row of numbers, said by at, token, tokenAt, number ===== -/
def TR (r : Nat → Int32) (a k t m : Int32) : Nat → Int32 := upd (upd (upd (upd r 2 a) 3 k) 4 t) 5 m
def tpS (σ : Nat → Nat → Int32) (a k t m : Int32) : Nat → Nat → Int32 := va_up σ 1 (TR (σ 1) a k t m)
theorem tp_eta (σ : Nat → Nat → Int32) : tpS σ (σ 1 2) (σ 1 3) (σ 1 4) (σ 1 5) = σ := by
  funext o j
  by_cases h : o = 1
  · subst h
    unfold tpS
    rw [va_up_self]
    unfold TR
    by_cases h5 : j = 5
    · subst h5; rw [pk_us]
    rw [pk_un h5]
    by_cases h4 : j = 4
    · subst h4; rw [pk_us]
    rw [pk_un h4]
    by_cases h3 : j = 3
    · subst h3; rw [pk_us]
    rw [pk_un h3]
    by_cases h2 : j = 2
    · subst h2; rw [pk_us]
    rw [pk_un h2]
  · unfold tpS; rw [va_up_ne _ _ h]
theorem up_com (r : Nat → Int32) {i j : Nat} (h : i ≠ j) (v w : Int32) : upd (upd r i v) j w = upd (upd r j w) i v := by
  funext q
  by_cases h1 : q = i
  · subst h1; rw [pk_un h, pk_us, pk_us]
  · by_cases h2 : q = j
    · subst h2; rw [pk_us, pk_un (Ne.symm h), pk_us]
    · rw [pk_un h2, pk_un h1, pk_un h1, pk_un h2]
theorem up_dup (r : Nat → Int32) (i : Nat) (v w : Int32) : upd (upd r i v) i w = upd r i w := by
  funext q
  by_cases h1 : q = i
  · subst h1; rw [pk_us, pk_us]
  · rw [pk_un h1, pk_un h1, pk_un h1]
theorem tp_up (σ : Nat → Nat → Int32) (r : Nat → Int32) (k : Nat) (v : Int32) : upR (va_up σ 1 r) 1 k v = va_up σ 1 (upd r k v) := by
  unfold upR; rw [va_up_self, bx_uu]
theorem tp_2 (σ : Nat → Nat → Int32) (a k t m v : Int32) : upR (tpS σ a k t m) 1 2 v = tpS σ v k t m := by
  unfold tpS TR
  rw [tp_up, up_com _ (by decide : (5 : Nat) ≠ 2), up_com _ (by decide : (4 : Nat) ≠ 2), up_com _ (by decide : (3 : Nat) ≠ 2), up_dup]
theorem tp_3 (σ : Nat → Nat → Int32) (a k t m v : Int32) : upR (tpS σ a k t m) 1 3 v = tpS σ a v t m := by
  unfold tpS TR
  rw [tp_up, up_com _ (by decide : (5 : Nat) ≠ 3), up_com _ (by decide : (4 : Nat) ≠ 3), up_dup]
theorem tp_4 (σ : Nat → Nat → Int32) (a k t m v : Int32) : upR (tpS σ a k t m) 1 4 v = tpS σ a k v m := by
  unfold tpS TR
  rw [tp_up, up_com _ (by decide : (5 : Nat) ≠ 4), up_dup]
theorem tp_5 (σ : Nat → Nat → Int32) (a k t m v : Int32) : upR (tpS σ a k t m) 1 5 v = tpS σ a k t v := by
  unfold tpS TR
  rw [tp_up, up_dup]
theorem sub_nI {a b : Nat} (h : b ≤ a) : nI a - nI b = nI (a - b) := by
  obtain ⟨d, rfl⟩ : ∃ d, a = d + b := ⟨a - b, by omega⟩
  rw [Nat.add_sub_cancel, ← nI_add]; exact Int32.add_sub_cancel _ _
theorem nI_i {a b : Nat} (ha : a < 2 ^ 31) (hb : b < 2 ^ 31) (h : nI a = nI b) : a = b := by
  have := congrArg iN h
  rwa [iN_nI ha, iN_nI hb] at this
/-! the lexer -/
def numG (β : Nat → Int32) (z : Nat) : Nat → Nat → Int32 → Nat × Int32
  | 0, i, v => (i, v)
  | f + 1, i, v => if i < z then (if digS (β i) = 0 then (i, v) else numG β z f (i + 1) (v * 10 + β i - 48)) else (i, v)
def letG (β : Nat → Int32) (z : Nat) : Nat → Nat → Nat
  | 0, i => i
  | f + 1, i => if i < z then (if letS (β i) = 0 then i else letG β z f (i + 1)) else i
def skpG (β : Nat → Int32) (z : Nat) : Nat → Nat → Nat
  | 0, i => i
  | f + 1, i => if i < z then (if β i = 32 ∨ β i = 10 then skpG β z f (i + 1) else i) else i
theorem numG_le (β : Nat → Int32) (z : Nat) : ∀ (f i : Nat) (v : Int32), i ≤ z → i ≤ (numG β z f i v).1 ∧ (numG β z f i v).1 ≤ z
  | 0, i, v, h => ⟨Nat.le_refl _, h⟩
  | f + 1, i, v, h => by
    unfold numG
    by_cases h1 : i < z
    · rw [if_pos h1]
      by_cases h2 : digS (β i) = 0
      · rw [if_pos h2]; exact ⟨Nat.le_refl _, h⟩
      · rw [if_neg h2]
        have := numG_le β z f (i + 1) (v * 10 + β i - 48) h1
        omega
    · rw [if_neg h1]; exact ⟨Nat.le_refl _, h⟩
theorem letG_le (β : Nat → Int32) (z : Nat) : ∀ (f i : Nat), i ≤ z → i ≤ letG β z f i ∧ letG β z f i ≤ z
  | 0, i, h => ⟨Nat.le_refl _, h⟩
  | f + 1, i, h => by
    unfold letG
    by_cases h1 : i < z
    · rw [if_pos h1]
      by_cases h2 : letS (β i) = 0
      · rw [if_pos h2]; exact ⟨Nat.le_refl _, h⟩
      · rw [if_neg h2]
        have := letG_le β z f (i + 1) h1
        omega
    · rw [if_neg h1]; exact ⟨Nat.le_refl _, h⟩
theorem skpG_le (β : Nat → Int32) (z : Nat) : ∀ (f i : Nat), i ≤ z → i ≤ skpG β z f i ∧ skpG β z f i ≤ z
  | 0, i, h => ⟨Nat.le_refl _, h⟩
  | f + 1, i, h => by
    unfold skpG
    by_cases h1 : i < z
    · rw [if_pos h1]
      by_cases h2 : β i = 32 ∨ β i = 10
      · rw [if_pos h2]
        have := skpG_le β z f (i + 1) h1
        omega
      · rw [if_neg h2]; exact ⟨Nat.le_refl _, h⟩
    · rw [if_neg h1]; exact ⟨Nat.le_refl _, h⟩
def spF (β : Nat → Int32) (t i : Nat) : Nat → Nat → Int32
  | 0, _ => 1
  | f + 1, j => if β (t + j) = chW i j then spF β t i f (j + 1) else 0
def spS (β : Nat → Int32) (t a i : Nat) : Int32 := if nI (a - t) = nI (lenW.getD i 0) then spF β t i (lenW.getD i 0) 0 else 0
def wordF (β : Nat → Int32) (t a : Nat) : Nat → Nat → Int32
  | 0, _ => 1
  | f + 1, i => if spS β t a i = 0 then wordF β t a f (i + 1) else -(nI (i + 1))
theorem wordF_n {β : Nat → Int32} {t a f i : Nat} (h : spS β t a i = 0) : wordF β t a (f + 1) i = wordF β t a f (i + 1) := if_pos h
theorem wordF_y {β : Nat → Int32} {t a f i : Nat} (h : ¬ spS β t a i = 0) : wordF β t a (f + 1) i = -(nI (i + 1)) := if_neg h
set_option maxHeartbeats 800000 in
set_option maxRecDepth 100000 in
theorem kX5_signToken {l : Launch} {v : Int32}  : PM l yX5_signToken cX5_signToken 1 FieldType.int { frames := 0, cells := 0, slots := 0, locals := 0 } [.int v] (sigS v) := by
  refine gw_stS (own := RX5) (by decide +kernel) rfl (Nat.le_of_ble_eq_true rfl) ?_
  intro p e s m ar below meth c Q F hret ls hl
  obtain ⟨hx, hb, hml, hown, hts⟩ := id F
  have hl : lv_has ls 1 [(0, .int v)] := hl
  refine lv_iload_n hx hb dX5_signToken_0 rfl (lv_at hl 0 rfl) ?_
  by_cases c_1 : v = 40
  ·
    refine lv_tableIn (off := 103) (tgt := 104) hx hb dX5_signToken_1 (by rw [c_1]; decide) (by rw [c_1]; decide) (by rw [c_1]; rfl) (by decide) ?_
    refine lv_iload_n hx hb dX5_signToken_104 rfl (lv_at hl 0 rfl) ?_
    exact hret v _ _ rfl (by rw [c_1]; decide) dX5_signToken_105
  ·
    by_cases c_2 : v = 41
    ·
      refine lv_tableIn (off := 103) (tgt := 104) hx hb dX5_signToken_1 (by rw [c_2]; decide) (by rw [c_2]; decide) (by rw [c_2]; rfl) (by decide) ?_
      refine lv_iload_n hx hb dX5_signToken_104 rfl (lv_at hl 0 rfl) ?_
      exact hret v _ _ rfl (by rw [c_2]; decide) dX5_signToken_105
    ·
      by_cases c_3 : v = 42
      ·
        refine lv_tableIn (off := 103) (tgt := 104) hx hb dX5_signToken_1 (by rw [c_3]; decide) (by rw [c_3]; decide) (by rw [c_3]; rfl) (by decide) ?_
        refine lv_iload_n hx hb dX5_signToken_104 rfl (lv_at hl 0 rfl) ?_
        exact hret v _ _ rfl (by rw [c_3]; decide) dX5_signToken_105
      ·
        by_cases c_4 : v = 43
        ·
          refine lv_tableIn (off := 103) (tgt := 104) hx hb dX5_signToken_1 (by rw [c_4]; decide) (by rw [c_4]; decide) (by rw [c_4]; rfl) (by decide) ?_
          refine lv_iload_n hx hb dX5_signToken_104 rfl (lv_at hl 0 rfl) ?_
          exact hret v _ _ rfl (by rw [c_4]; decide) dX5_signToken_105
        ·
          by_cases c_5 : v = 44
          ·
            refine lv_tableIn (off := 105) (tgt := 106) hx hb dX5_signToken_1 (by rw [c_5]; decide) (by rw [c_5]; decide) (by rw [c_5]; rfl) (by decide) ?_
            refine lv_iconst (v := 1) hx hb dX5_signToken_106 (by decide) ?_
            exact hret 1 _ _ rfl (by rw [c_5]; decide) dX5_signToken_107
          ·
            by_cases c_6 : v = 45
            ·
              refine lv_tableIn (off := 103) (tgt := 104) hx hb dX5_signToken_1 (by rw [c_6]; decide) (by rw [c_6]; decide) (by rw [c_6]; rfl) (by decide) ?_
              refine lv_iload_n hx hb dX5_signToken_104 rfl (lv_at hl 0 rfl) ?_
              exact hret v _ _ rfl (by rw [c_6]; decide) dX5_signToken_105
            ·
              by_cases c_7 : v = 46
              ·
                refine lv_tableIn (off := 105) (tgt := 106) hx hb dX5_signToken_1 (by rw [c_7]; decide) (by rw [c_7]; decide) (by rw [c_7]; rfl) (by decide) ?_
                refine lv_iconst (v := 1) hx hb dX5_signToken_106 (by decide) ?_
                exact hret 1 _ _ rfl (by rw [c_7]; decide) dX5_signToken_107
              ·
                by_cases c_8 : v = 47
                ·
                  refine lv_tableIn (off := 105) (tgt := 106) hx hb dX5_signToken_1 (by rw [c_8]; decide) (by rw [c_8]; decide) (by rw [c_8]; rfl) (by decide) ?_
                  refine lv_iconst (v := 1) hx hb dX5_signToken_106 (by decide) ?_
                  exact hret 1 _ _ rfl (by rw [c_8]; decide) dX5_signToken_107
                ·
                  by_cases c_9 : v = 48
                  ·
                    refine lv_tableIn (off := 105) (tgt := 106) hx hb dX5_signToken_1 (by rw [c_9]; decide) (by rw [c_9]; decide) (by rw [c_9]; rfl) (by decide) ?_
                    refine lv_iconst (v := 1) hx hb dX5_signToken_106 (by decide) ?_
                    exact hret 1 _ _ rfl (by rw [c_9]; decide) dX5_signToken_107
                  ·
                    by_cases c_10 : v = 49
                    ·
                      refine lv_tableIn (off := 105) (tgt := 106) hx hb dX5_signToken_1 (by rw [c_10]; decide) (by rw [c_10]; decide) (by rw [c_10]; rfl) (by decide) ?_
                      refine lv_iconst (v := 1) hx hb dX5_signToken_106 (by decide) ?_
                      exact hret 1 _ _ rfl (by rw [c_10]; decide) dX5_signToken_107
                    ·
                      by_cases c_11 : v = 50
                      ·
                        refine lv_tableIn (off := 105) (tgt := 106) hx hb dX5_signToken_1 (by rw [c_11]; decide) (by rw [c_11]; decide) (by rw [c_11]; rfl) (by decide) ?_
                        refine lv_iconst (v := 1) hx hb dX5_signToken_106 (by decide) ?_
                        exact hret 1 _ _ rfl (by rw [c_11]; decide) dX5_signToken_107
                      ·
                        by_cases c_12 : v = 51
                        ·
                          refine lv_tableIn (off := 105) (tgt := 106) hx hb dX5_signToken_1 (by rw [c_12]; decide) (by rw [c_12]; decide) (by rw [c_12]; rfl) (by decide) ?_
                          refine lv_iconst (v := 1) hx hb dX5_signToken_106 (by decide) ?_
                          exact hret 1 _ _ rfl (by rw [c_12]; decide) dX5_signToken_107
                        ·
                          by_cases c_13 : v = 52
                          ·
                            refine lv_tableIn (off := 105) (tgt := 106) hx hb dX5_signToken_1 (by rw [c_13]; decide) (by rw [c_13]; decide) (by rw [c_13]; rfl) (by decide) ?_
                            refine lv_iconst (v := 1) hx hb dX5_signToken_106 (by decide) ?_
                            exact hret 1 _ _ rfl (by rw [c_13]; decide) dX5_signToken_107
                          ·
                            by_cases c_14 : v = 53
                            ·
                              refine lv_tableIn (off := 105) (tgt := 106) hx hb dX5_signToken_1 (by rw [c_14]; decide) (by rw [c_14]; decide) (by rw [c_14]; rfl) (by decide) ?_
                              refine lv_iconst (v := 1) hx hb dX5_signToken_106 (by decide) ?_
                              exact hret 1 _ _ rfl (by rw [c_14]; decide) dX5_signToken_107
                            ·
                              by_cases c_15 : v = 54
                              ·
                                refine lv_tableIn (off := 105) (tgt := 106) hx hb dX5_signToken_1 (by rw [c_15]; decide) (by rw [c_15]; decide) (by rw [c_15]; rfl) (by decide) ?_
                                refine lv_iconst (v := 1) hx hb dX5_signToken_106 (by decide) ?_
                                exact hret 1 _ _ rfl (by rw [c_15]; decide) dX5_signToken_107
                              ·
                                by_cases c_16 : v = 55
                                ·
                                  refine lv_tableIn (off := 105) (tgt := 106) hx hb dX5_signToken_1 (by rw [c_16]; decide) (by rw [c_16]; decide) (by rw [c_16]; rfl) (by decide) ?_
                                  refine lv_iconst (v := 1) hx hb dX5_signToken_106 (by decide) ?_
                                  exact hret 1 _ _ rfl (by rw [c_16]; decide) dX5_signToken_107
                                ·
                                  by_cases c_17 : v = 56
                                  ·
                                    refine lv_tableIn (off := 105) (tgt := 106) hx hb dX5_signToken_1 (by rw [c_17]; decide) (by rw [c_17]; decide) (by rw [c_17]; rfl) (by decide) ?_
                                    refine lv_iconst (v := 1) hx hb dX5_signToken_106 (by decide) ?_
                                    exact hret 1 _ _ rfl (by rw [c_17]; decide) dX5_signToken_107
                                  ·
                                    by_cases c_18 : v = 57
                                    ·
                                      refine lv_tableIn (off := 105) (tgt := 106) hx hb dX5_signToken_1 (by rw [c_18]; decide) (by rw [c_18]; decide) (by rw [c_18]; rfl) (by decide) ?_
                                      refine lv_iconst (v := 1) hx hb dX5_signToken_106 (by decide) ?_
                                      exact hret 1 _ _ rfl (by rw [c_18]; decide) dX5_signToken_107
                                    ·
                                      by_cases c_19 : v = 58
                                      ·
                                        refine lv_tableIn (off := 105) (tgt := 106) hx hb dX5_signToken_1 (by rw [c_19]; decide) (by rw [c_19]; decide) (by rw [c_19]; rfl) (by decide) ?_
                                        refine lv_iconst (v := 1) hx hb dX5_signToken_106 (by decide) ?_
                                        exact hret 1 _ _ rfl (by rw [c_19]; decide) dX5_signToken_107
                                      ·
                                        by_cases c_20 : v = 59
                                        ·
                                          refine lv_tableIn (off := 103) (tgt := 104) hx hb dX5_signToken_1 (by rw [c_20]; decide) (by rw [c_20]; decide) (by rw [c_20]; rfl) (by decide) ?_
                                          refine lv_iload_n hx hb dX5_signToken_104 rfl (lv_at hl 0 rfl) ?_
                                          exact hret v _ _ rfl (by rw [c_20]; decide) dX5_signToken_105
                                        ·
                                          by_cases c_21 : v = 60
                                          ·
                                            refine lv_tableIn (off := 103) (tgt := 104) hx hb dX5_signToken_1 (by rw [c_21]; decide) (by rw [c_21]; decide) (by rw [c_21]; rfl) (by decide) ?_
                                            refine lv_iload_n hx hb dX5_signToken_104 rfl (lv_at hl 0 rfl) ?_
                                            exact hret v _ _ rfl (by rw [c_21]; decide) dX5_signToken_105
                                          ·
                                            by_cases c_22 : v = 61
                                            ·
                                              refine lv_tableIn (off := 103) (tgt := 104) hx hb dX5_signToken_1 (by rw [c_22]; decide) (by rw [c_22]; decide) (by rw [c_22]; rfl) (by decide) ?_
                                              refine lv_iload_n hx hb dX5_signToken_104 rfl (lv_at hl 0 rfl) ?_
                                              exact hret v _ _ rfl (by rw [c_22]; decide) dX5_signToken_105
                                            ·
                                              refine lv_tableOut (tgt := 106) hx hb dX5_signToken_1 (tb_out22_40 c_1 c_2 c_3 c_4 c_5 c_6 c_7 c_8 c_9 c_10 c_11 c_12 c_13 c_14 c_15 c_16 c_17 c_18 c_19 c_20 c_21 c_22) (by decide) ?_
                                              refine lv_iconst (v := 1) hx hb dX5_signToken_106 (by decide) ?_
                                              exact hret 1 _ _ rfl (by unfold sigS; rw [if_neg (by simp only [c_1, c_2, c_3, c_4, c_5, c_6, c_7, c_8, c_9, c_10, c_11, c_12, c_13, c_14, c_15, c_16, c_17, c_18, c_19, c_20, c_21, c_22, or_self, not_false_eq_true])]) dX5_signToken_107
abbrev rm_yX5_numberToken : Room := { frames := 1, cells := 0, slots := 0, locals := 20 }
set_option maxHeartbeats 800000 in
set_option maxRecDepth 100000 in
theorem kX5_numberToken {l : Launch} {D : va_G} {cs : Nat → ClassId} {ad : Nat → Nat} {n : Nat} {ρ σ : Nat → Nat → Int32} {TT τ : Nat → Nat → Nat → Int32} {sz : Nat} {adK adV : Nat → Nat} {z a t : Nat} {k0 m0 : Int32} (hz : σ 1 1 = nI z) (hz1 : z ≤ 160) (haz : a ≤ z) (hta : t ≤ a) : XSi l yX5_numberToken cX5_numberToken 1 FieldType.int rm_yX5_numberToken [.ref (ad 1)] D cs ad n ρ TT τ (tpS σ (nI a) k0 (nI t) m0) sz adK adV (fun (r : Int32) (u : Nat → Nat → Int32) => r = (if 4 < nI ((numG (σ 2) z 161 a 0).1 - t) then 1 else 2) ∧ u = tpS σ (nI (numG (σ 2) z 161 a 0).1) k0 (nI t) (numG (σ 2) z 161 a 0).2) (fun u : Nat → Nat → Int32 => xent ad cs n ρ TT τ u) := by
  refine gw_stIs (Ff := fun u : Nat → Nat → Int32 => xent ad cs n ρ TT τ u) (own := RX5) (by decide +kernel) rfl (Nat.le_of_ble_eq_true rfl) ?_
  intro p e s m ar below meth c A Q F hE hsz hA hW hret ls hl
  obtain ⟨hx, hb, hml, hown, hts⟩ := id F
  have hl : lv_has ls 1 [(0, .ref (ad 1))] := hl
  refine lv_aload_n hx hb dX5_numberToken_0 rfl (lv_at hl 0 rfl) ?_
  refine lv_iconst (v := 0) hx hb dX5_numberToken_1 (by decide) ?_
  refine xw_P F hW 5 (by decide) fl_RX5_86 rfl (ty := .int) rfl rfl rfl rfl dX5_numberToken_2 (fun H locs hW => ?_)
  have hW : XW D cs ad n ρ TT τ (tpS σ (nI a) k0 (nI t) 0) A s s.heap H locs := by rw [tp_5] at hW; exact hW
  generalize hR0 : numG (σ 2) z 161 a 0 = RES
  have L5 : ∀ (k : Nat) (i f : Nat) (vv : Int32), (a ≤ i) → (i ≤ z) → (z + 1 ≤ i + k) → (z + 1 ≤ i + f) → (numG (σ 2) z f i vv = RES) → ∀ (H : Heap) (locs : List Loc) (ls : Array Slot), XW D cs ad n ρ TT τ (tpS σ (nI i) k0 (nI t) vv) A s s.heap H locs → lv_has ls 1 [(0, .ref (ad 1))] → W p l e rm_yX5_numberToken s m ar below meth c H locs 0 0 Q (F0 m 5 ls []) := by
    intro k
    induction k with
    | zero => intro i f vv h0 h1 h2 h3 hRR; exact absurd h2 (by omega)
    | succ k ih5 =>
      intro i f vv h0 h1 h2 h3 hRR H locs ls hW hl
      refine lv_aload_n hx hb dX5_numberToken_5 rfl (lv_at hl 0 rfl) ?_
      refine xr_P F hW 2 (by decide) rfl fl_RX5_19 dX5_numberToken_6 ?_
      refine lv_as (z := nI i) rfl ?_
      refine lv_aload_n hx hb dX5_numberToken_9 rfl (lv_at hl 0 rfl) ?_
      refine xr_P F hW 1 (by decide) rfl fl_RX5_15 dX5_numberToken_10 ?_
      refine lv_as (z := nI z) hz ?_
      refine lv_icmp_ge (tgt := 68) hx hb dX5_numberToken_13 (by decide) (fun c_1 => ?_) (fun c_1 => ?_)
      ·
        obtain ⟨f', rfl⟩ : ∃ x, f = x + 1 := ⟨f - 1, by omega⟩; have hge : ¬ i < z := (by have := mi_le c_1 (by omega) (by omega); omega); have hRE : RES = (i, vv) := (by rw [← hRR]; exact if_neg hge)
        refine lv_aload_n hx hb dX5_numberToken_68 rfl (lv_at hl 0 rfl) ?_
        refine xr_P F hW 2 (by decide) rfl fl_RX5_19 dX5_numberToken_69 ?_
        refine lv_as (z := nI i) rfl ?_
        refine lv_aload_n hx hb dX5_numberToken_72 rfl (lv_at hl 0 rfl) ?_
        refine xr_P F hW 4 (by decide) rfl fl_RX5_25 dX5_numberToken_73 ?_
        refine lv_as (z := nI t) rfl ?_
        refine lv_isub hx hb dX5_numberToken_76 ?_
        refine lv_as (z := nI (i - t)) (sub_nI (by omega)) ?_
        refine lv_iconst (v := 4) hx hb dX5_numberToken_77 (by decide) ?_
        refine lv_icmp_le (tgt := 85) hx hb dX5_numberToken_78 (by decide) (fun c_2 => ?_) (fun c_2 => ?_)
        ·
          refine lv_iconst (v := 2) hx hb dX5_numberToken_85 (by decide) ?_
          exact hret 2 (tpS σ (nI i) k0 (nI t) vv) _ _ _ _ _ hW rfl rfl (by rw [hR0, hRE]; exact ⟨(if_neg (Int32.not_lt.mpr c_2)).symm, rfl⟩) dX5_numberToken_86
        ·
          refine lv_iconst (v := 1) hx hb dX5_numberToken_81 (by decide) ?_
          refine lv_goto (tgt := 86) hx hb dX5_numberToken_82 (by decide) ?_
          exact hret 1 (tpS σ (nI i) k0 (nI t) vv) _ _ _ _ _ hW rfl rfl (by rw [hR0, hRE]; exact ⟨(if_pos (Int32.not_le.mp c_2)).symm, rfl⟩) dX5_numberToken_86
      ·
        obtain ⟨f', rfl⟩ : ∃ x, f = x + 1 := ⟨f - 1, by omega⟩; have hlt : i < z := mi_nle c_1 (by omega) (by omega)
        refine lv_aload_n hx hb dX5_numberToken_16 rfl (lv_at hl 0 rfl) ?_
        refine xr_P F hW 0 (by decide) rfl fl_RX5_9 dX5_numberToken_17 ?_
        refine lv_aload_n hx hb dX5_numberToken_20 rfl (lv_at hl 0 rfl) ?_
        refine xr_P F hW 2 (by decide) rfl fl_RX5_19 dX5_numberToken_21 ?_
        refine lv_as (z := nI i) rfl ?_
        refine xr_Be F hW (vp_in_nI (by omega) (by decide)) dX5_numberToken_24 ?_
        refine lv_as (z := σ 2 i) (by rw [nI_clamp (by omega)]; rfl) ?_
        refine gw_callP (As := [.int (σ 2 i)]) (rest := []) F hl.1 (kX5_isDigit) pd_yX5_isDigit ml_RX5_39 st_yX5_isDigit ini_RX5 cd_yX5_isDigit ⟨rfl, rfl⟩ ⟨Nat.le_of_ble_eq_true rfl, Nat.le_of_ble_eq_true rfl⟩ rfl rfl (Nat.le_of_ble_eq_true rfl) ⟨Nat.zero_le _, Nat.zero_le _⟩ dX5_numberToken_25 ?_
        refine lv_as (z := digS (σ 2 i)) rfl ?_
        refine lv_if_eq (tgt := 68) hx hb dX5_numberToken_28 (by decide) (fun c_3 => ?_) (fun c_3 => ?_)
        ·
          have hRE : RES = (i, vv) := by rw [← hRR]; exact (if_pos hlt).trans (if_pos c_3)
          refine lv_aload_n hx hb dX5_numberToken_68 rfl (lv_at hl 0 rfl) ?_
          refine xr_P F hW 2 (by decide) rfl fl_RX5_19 dX5_numberToken_69 ?_
          refine lv_as (z := nI i) rfl ?_
          refine lv_aload_n hx hb dX5_numberToken_72 rfl (lv_at hl 0 rfl) ?_
          refine xr_P F hW 4 (by decide) rfl fl_RX5_25 dX5_numberToken_73 ?_
          refine lv_as (z := nI t) rfl ?_
          refine lv_isub hx hb dX5_numberToken_76 ?_
          refine lv_as (z := nI (i - t)) (sub_nI (by omega)) ?_
          refine lv_iconst (v := 4) hx hb dX5_numberToken_77 (by decide) ?_
          refine lv_icmp_le (tgt := 85) hx hb dX5_numberToken_78 (by decide) (fun c_4 => ?_) (fun c_4 => ?_)
          ·
            refine lv_iconst (v := 2) hx hb dX5_numberToken_85 (by decide) ?_
            exact hret 2 (tpS σ (nI i) k0 (nI t) vv) _ _ _ _ _ hW rfl rfl (by rw [hR0, hRE]; exact ⟨(if_neg (Int32.not_lt.mpr c_4)).symm, rfl⟩) dX5_numberToken_86
          ·
            refine lv_iconst (v := 1) hx hb dX5_numberToken_81 (by decide) ?_
            refine lv_goto (tgt := 86) hx hb dX5_numberToken_82 (by decide) ?_
            exact hret 1 (tpS σ (nI i) k0 (nI t) vv) _ _ _ _ _ hW rfl rfl (by rw [hR0, hRE]; exact ⟨(if_pos (Int32.not_le.mp c_4)).symm, rfl⟩) dX5_numberToken_86
        ·
          refine lv_aload_n hx hb dX5_numberToken_31 rfl (lv_at hl 0 rfl) ?_
          refine lv_aload_n hx hb dX5_numberToken_32 rfl (lv_at hl 0 rfl) ?_
          refine xr_P F hW 5 (by decide) rfl fl_RX5_86 dX5_numberToken_33 ?_
          refine lv_as (z := vv) rfl ?_
          refine lv_bipush (v := 10) hx hb dX5_numberToken_36 (by decide) ?_
          refine lv_imul hx hb dX5_numberToken_38 ?_
          refine lv_aload_n hx hb dX5_numberToken_39 rfl (lv_at hl 0 rfl) ?_
          refine xr_P F hW 0 (by decide) rfl fl_RX5_9 dX5_numberToken_40 ?_
          refine lv_aload_n hx hb dX5_numberToken_43 rfl (lv_at hl 0 rfl) ?_
          refine xr_P F hW 2 (by decide) rfl fl_RX5_19 dX5_numberToken_44 ?_
          refine lv_as (z := nI i) rfl ?_
          refine xr_Be F hW (vp_in_nI (by omega) (by decide)) dX5_numberToken_47 ?_
          refine lv_as (z := σ 2 i) (by rw [nI_clamp (by omega)]; rfl) ?_
          refine lv_iadd hx hb dX5_numberToken_48 ?_
          refine lv_bipush (v := 48) hx hb dX5_numberToken_49 (by decide) ?_
          refine lv_isub hx hb dX5_numberToken_51 ?_
          refine xw_P F hW 5 (by decide) fl_RX5_86 rfl (ty := .int) rfl rfl rfl rfl dX5_numberToken_52 (fun H locs hW => ?_)
          have hW : XW D cs ad n ρ TT τ (tpS σ (nI i) k0 (nI t) (((vv * 10) + (σ 2 i)) - 48)) A s s.heap H locs := by rw [tp_5] at hW; exact hW
          refine lv_aload_n hx hb dX5_numberToken_55 rfl (lv_at hl 0 rfl) ?_
          refine lv_dup hx hb dX5_numberToken_56 rfl ?_
          refine xr_P F hW 2 (by decide) rfl fl_RX5_19 dX5_numberToken_57 ?_
          refine lv_as (z := nI i) rfl ?_
          refine lv_iconst (v := 1) hx hb dX5_numberToken_60 (by decide) ?_
          refine lv_iadd hx hb dX5_numberToken_61 ?_
          refine lv_as (z := nI (i + 1)) (nI_1 i) ?_
          refine xw_P F hW 2 (by decide) fl_RX5_19 rfl (ty := .int) rfl rfl rfl rfl dX5_numberToken_62 (fun H locs hW => ?_)
          have hW : XW D cs ad n ρ TT τ (tpS σ (nI (i + 1)) k0 (nI t) (((vv * 10) + (σ 2 i)) - 48)) A s s.heap H locs := by rw [tp_2] at hW; exact hW
          refine lv_goto (tgt := 5) hx hb dX5_numberToken_65 (by decide) ?_
          exact ih5 (i + 1) f' _ (by omega) (by omega) (by omega) (by omega) (by rw [← hRR]; exact ((if_pos hlt).trans (if_neg c_3)).symm) _ _ _ hW (lv_sub hl [0] rfl)
  exact L5 (z + 1) a 161 0 (Nat.le_refl _) (haz) (by omega) (by omega) (hR0) _ _ _ hW (lv_sub hl [0] rfl)
abbrev rm_yX5_spells : Room := { frames := 4, cells := 0, slots := 0, locals := 85 }
set_option maxHeartbeats 800000 in
set_option maxRecDepth 100000 in
theorem kX5_spells {l : Launch} {D : va_G} {cs : Nat → ClassId} {ad : Nat → Nat} {n : Nat} {ρ σ : Nat → Nat → Int32} {TT τ : Nat → Nat → Nat → Int32} {sz : Nat} {adK adV : Nat → Nat} {z a t : Nat} {k0 m0 : Int32} {i0 : Nat} (hz : σ 1 1 = nI z) (hz1 : z ≤ 160) (haz : a ≤ z) (hta : t ≤ a) (hi : i0 < 12) : XSi l yX5_spells cX5_spells 3 FieldType.boolean rm_yX5_spells [.ref (ad 1), .ref (adK i0)] D cs ad n ρ TT τ (tpS σ (nI a) k0 (nI t) m0) sz adK adV (fun (r : Int32) (u : Unit) => r = spS (σ 2) t a i0) (fun u : Unit => xent ad cs n ρ TT τ (tpS σ (nI a) k0 (nI t) m0)) := by
  refine gw_stIs (Ff := fun u : Unit => xent ad cs n ρ TT τ (tpS σ (nI a) k0 (nI t) m0)) (own := RX5) (by decide +kernel) rfl (Nat.le_of_ble_eq_true rfl) ?_
  intro p e s m ar below meth c A Q F hE hsz hA hW hret ls hl
  obtain ⟨hx, hb, hml, hown, hts⟩ := id F
  have hl : lv_has ls 3 [(0, .ref (ad 1)), (1, .ref (adK i0))] := hl
  have h7 := lenW_lt i0 hi
  refine lv_aload_n hx hb dX5_spells_0 rfl (lv_at hl 0 rfl) ?_
  refine xr_P F hW 2 (by decide) rfl fl_RX5_19 dX5_spells_1 ?_
  refine lv_as (z := nI a) rfl ?_
  refine lv_aload_n hx hb dX5_spells_4 rfl (lv_at hl 0 rfl) ?_
  refine xr_P F hW 4 (by decide) rfl fl_RX5_25 dX5_spells_5 ?_
  refine lv_as (z := nI t) rfl ?_
  refine lv_isub hx hb dX5_spells_8 ?_
  refine lv_as (z := nI (a - t)) (sub_nI (by omega)) ?_
  refine lv_aload_n hx hb dX5_spells_9 rfl (lv_at hl 1 rfl) ?_
  refine gw_callTi (As := []) (rest := [.int (nI (a - t))]) F hl.1 hW (xs_hE hE hA hsz hW) XS_E (vk_recv (vk_S.narrow hE.2.2.2.1 hA) hi hW.2.2.2.1) (kJ0_length_8abf5 (adK := adK) (adV := adV) hi) pd_yJ0_length_8abf5 ml_RX5_77 im_yJ0_length_8abf5 se_yJ0_length_8abf5 ini_RJ0 cd_yJ0_length_8abf5 ⟨rfl, rfl⟩ ⟨Nat.le_of_ble_eq_true rfl, Nat.le_of_ble_eq_true rfl⟩ rfl rfl (Nat.le_of_ble_eq_true rfl) ⟨Nat.zero_le _, Nat.zero_le _⟩ dX5_spells_10 (fun r u H locs hp hW _ _ => ?_)
  subst hp
  refine lv_icmp_eq (tgt := 18) hx hb dX5_spells_13 (by decide) (fun c_1 => ?_) (fun c_1 => ?_)
  ·
    have hlen : a - t = lenW.getD i0 0 := nI_i (by omega) (by omega) c_1
    refine lv_iconst (v := 0) hx hb dX5_spells_18 (by decide) ?_
    refine lv_istore_n (lv' := [(2, .int 0), (0, .ref (ad 1)), (1, .ref (adK i0))]) hx hb dX5_spells_19 rfl hl (by decide) rfl (fun ls hl => ?_)
    generalize hR0 : spF (σ 2) t i0 (lenW.getD i0 0) 0 = RES
    have L20 : ∀ (k : Nat) (j f : Nat), (j + f = lenW.getD i0 0) → (lenW.getD i0 0 + 1 ≤ j + k) → (spF (σ 2) t i0 f j = RES) → ∀ (H : Heap) (locs : List Loc) (ls : Array Slot), XW D cs ad n ρ TT τ (tpS σ (nI a) k0 (nI t) m0) A s s.heap H locs → lv_has ls 3 [(2, .int (nI j)), (0, .ref (ad 1)), (1, .ref (adK i0))] → W p l e rm_yX5_spells s m ar below meth c H locs 0 0 Q (F0 m 20 ls []) := by
      intro k
      induction k with
      | zero => intro j f h1 h2 hRR; exact absurd h2 (by omega)
      | succ k ih20 =>
        intro j f h1 h2 hRR H locs ls hW hl
        refine lv_iload_n hx hb dX5_spells_20 rfl (lv_at hl 0 rfl) ?_
        refine lv_aload_n hx hb dX5_spells_21 rfl (lv_at hl 2 rfl) ?_
        refine gw_callTi (As := []) (rest := [.int (nI j)]) F hl.1 hW (xs_hE hE hA hsz hW) XS_E (vk_recv (vk_S.narrow hE.2.2.2.1 hA) hi hW.2.2.2.1) (kJ0_length_8abf5 (adK := adK) (adV := adV) hi) pd_yJ0_length_8abf5 ml_RX5_77 im_yJ0_length_8abf5 se_yJ0_length_8abf5 ini_RJ0 cd_yJ0_length_8abf5 ⟨rfl, rfl⟩ ⟨Nat.le_of_ble_eq_true rfl, Nat.le_of_ble_eq_true rfl⟩ rfl rfl (Nat.le_of_ble_eq_true rfl) ⟨Nat.zero_le _, Nat.zero_le _⟩ dX5_spells_22 (fun r u H locs hp hW _ _ => ?_)
        subst hp
        refine lv_icmp_ge (tgt := 55) hx hb dX5_spells_25 (by decide) (fun c_2 => ?_) (fun c_2 => ?_)
        ·
          obtain rfl : f = 0 := by have := mi_le c_2 (by omega) (by omega); omega
          refine lv_iconst (v := 1) hx hb dX5_spells_55 (by decide) ?_
          exact hret 1 () _ _ _ _ _ hW rfl rfl (by unfold spS; rw [if_pos c_1, hR0, ← hRR]; rfl) dX5_spells_56
        ·
          have hlt : j < lenW.getD i0 0 := mi_nle c_2 (by omega) (by omega); obtain ⟨f', rfl⟩ : ∃ x, f = x + 1 := ⟨f - 1, by omega⟩
          refine lv_aload_n hx hb dX5_spells_28 rfl (lv_at hl 1 rfl) ?_
          refine xr_P F hW 0 (by decide) rfl fl_RX5_9 dX5_spells_29 ?_
          refine lv_aload_n hx hb dX5_spells_32 rfl (lv_at hl 1 rfl) ?_
          refine xr_P F hW 4 (by decide) rfl fl_RX5_25 dX5_spells_33 ?_
          refine lv_as (z := nI t) rfl ?_
          refine lv_iload_n hx hb dX5_spells_36 rfl (lv_at hl 0 rfl) ?_
          refine lv_iadd hx hb dX5_spells_37 ?_
          refine lv_as (z := nI (t + j)) (nI_add _ _) ?_
          refine xr_Be F hW (vp_in_nI (by omega) (by decide)) dX5_spells_38 ?_
          refine lv_as (z := σ 2 (t + j)) (by rw [nI_clamp (by omega)]; rfl) ?_
          refine lv_aload_n hx hb dX5_spells_39 rfl (lv_at hl 2 rfl) ?_
          refine lv_iload_n hx hb dX5_spells_40 rfl (lv_at hl 0 rfl) ?_
          refine gw_callTi (As := [.int (nI j)]) (rest := [.int (σ 2 (t + j))]) F hl.1 hW (xs_hE hE hA hsz hW) XS_E (vk_recv (vk_S.narrow hE.2.2.2.1 hA) hi hW.2.2.2.1) (kJ0_charAt_5068e (adK := adK) (adV := adV) hi hlt) pd_yJ0_charAt_5068e ml_RX5_82 im_yJ0_charAt_5068e se_yJ0_charAt_5068e ini_RJ0 cd_yJ0_charAt_5068e ⟨rfl, rfl⟩ ⟨Nat.le_of_ble_eq_true rfl, Nat.le_of_ble_eq_true rfl⟩ rfl rfl (Nat.le_of_ble_eq_true rfl) ⟨Nat.zero_le _, Nat.zero_le _⟩ dX5_spells_41 (fun r u H locs hp hW _ _ => ?_)
          subst hp
          refine lv_icmp_eq (tgt := 49) hx hb dX5_spells_44 (by decide) (fun c_3 => ?_) (fun c_3 => ?_)
          ·
            refine lv_iinc (v := nI (j + 1)) (lv' := [(2, .int (nI (j + 1))), (0, .ref (ad 1)), (1, .ref (adK i0))]) hx hb dX5_spells_49 hl (k := 0) rfl (nI_1 j) (by decide) rfl (fun ls hl => ?_)
            refine lv_goto (tgt := 20) hx hb dX5_spells_52 (by decide) ?_
            exact ih20 (j + 1) f' (by omega) (by omega) (by rw [← hRR]; exact (if_pos c_3).symm) _ _ _ hW (lv_sub hl [0, 1, 2] rfl)
          ·
            refine lv_iconst (v := 0) hx hb dX5_spells_47 (by decide) ?_
            exact hret 0 () _ _ _ _ _ hW rfl rfl (by unfold spS; rw [if_pos c_1, hR0, ← hRR]; exact (if_neg c_3).symm) dX5_spells_48
    exact L20 (lenW.getD i0 0 + 1) 0 (lenW.getD i0 0) (by omega) (by omega) (hR0) _ _ _ hW (lv_sub hl [0, 1, 2] rfl)
  ·
    refine lv_iconst (v := 0) hx hb dX5_spells_16 (by decide) ?_
    exact hret 0 () _ _ _ _ _ hW rfl rfl (by unfold spS; rw [if_neg c_1]) dX5_spells_17
