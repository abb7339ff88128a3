/-! ===== the reference: sheets ===== -/
/-- the sheets alike -/
def ShE (χ σ : Nat → Nat → Int32) : Prop := ∀ j, j < 4 → soX χ j = σ 9 j ∧ siX χ j = σ 10 j ∧ ∀ k, k < 40 → nuX χ j k = σ 11 (40 * j + k)
def ShF (σ u : Nat → Nat → Int32) : Prop := ∀ o, o ≠ 9 → o ≠ 10 → o ≠ 11 → u o = σ o
theorem ShF.rf {σ : Nat → Nat → Int32} : ShF σ σ := fun _ _ _ _ => rfl
theorem sh_okM {χ σ : Nat → Nat → Int32} (hS : ShE χ σ) (hO : okS χ) : okSM σ := fun j hj => by
  obtain ⟨kt, h1, h2⟩ := hO j hj
  exact ⟨kt, h1, by rw [← (hS j hj).2.1]; exact h2⟩
/-- a sheet becomes: so, sz, its first i numbers 0 -/
def ShZ (σ : Nat → Nat → Int32) (j : Nat) (so sz : Int32) (i : Nat) (σ' : Nat → Nat → Int32) : Prop := σ' 9 = upd (σ 9) j so ∧ σ' 10 = upd (σ 10) j sz ∧ (∀ k, k < i → σ' 11 (40 * j + k) = 0) ∧ (∀ q, ¬ (40 * j ≤ q ∧ q < 40 * j + 40) → σ' 11 q = σ 11 q) ∧ ShF σ σ'
theorem shz_0 {σ : Nat → Nat → Int32} {j : Nat} {so sz : Int32} : ShZ σ j so sz 0 (upR (upR σ 9 j so) 10 j sz) := by
  refine ⟨by rw [up_ne2 (by decide), upR_self], by rw [upR_self, up_ne2 (by decide)], fun k hk => absurd hk (by omega), fun q _ => by rw [up_ne2 (by decide), up_ne2 (by decide)], fun o h1 h2 _ => by rw [up_ne2 h2, up_ne2 h1]⟩
theorem shz_s {σ σ' : Nat → Nat → Int32} {j i : Nat} {so sz : Int32} (h : ShZ σ j so sz i σ') (hi : i < 40) : ShZ σ j so sz (i + 1) (upR σ' 11 (40 * j + i) 0) := by
  obtain ⟨h1, h2, h3, h4, h5⟩ := h
  refine ⟨by rw [up_ne2 (by decide)]; exact h1, by rw [up_ne2 (by decide)]; exact h2, fun k hk => ?_, fun q hq => ?_, fun o a b c => by rw [up_ne2 c]; exact h5 o a b c⟩
  · rw [upR_self]
    by_cases e : k = i
    · subst e; exact pk_us
    · rw [pk_un (by omega)]; exact h3 k (by omega)
  · rw [upR_self, pk_un (by omega)]; exact h4 q hq
theorem fill_0 (g : Nat → Int32) : ∀ i k, k < i → fillR g 0 i k = 0
  | 0, k, h => absurd h (by omega)
  | i + 1, k, h => by
    show upd (fillR g 0 i) i 0 k = 0
    by_cases e : k = i
    · subst e; exact pk_us
    · rw [pk_un e]; exact fill_0 g i k (by omega)
theorem bec_so {χ : Nat → Nat → Int32} {j : Nat} {so sz : Int32} : soX (becS χ j so sz) j = so ∧ siX (becS χ j so sz) j = sz ∧ ∀ k, k < 40 → nuX (becS χ j so sz) j k = 0 := by
  refine ⟨?_, ?_, fun k hk => ?_⟩
  · show becS χ j so sz (34 + j) 1 = so
    rw [becS_so, pk_un (by decide)]; exact pk_us
  · show becS χ j so sz (34 + j) 2 = sz
    rw [becS_so]; exact pk_us
  · show becS χ j so sz (34 + j + 4) k = 0
    unfold becS
    rw [va_up_self]
    exact fill_0 _ 40 k hk
theorem bec_ne {χ : Nat → Nat → Int32} {j i : Nat} {so sz : Int32} (hi : i < 4) (hj : j < 4) (h : i ≠ j) : soX (becS χ j so sz) i = soX χ i ∧ siX (becS χ j so sz) i = siX χ i ∧ nuX (becS χ j so sz) i = nuX χ i := by
  refine ⟨?_, ?_, ?_⟩
  · show becS χ j so sz (34 + i) 1 = χ (34 + i) 1
    rw [becS_ne (by omega) (by omega)]
  · show becS χ j so sz (34 + i) 2 = χ (34 + i) 2
    rw [becS_ne (by omega) (by omega)]
  · show becS χ j so sz (34 + i + 4) = χ (34 + i + 4)
    rw [becS_ne (by omega) (by omega)]
theorem shz_E {χ σ σ' : Nat → Nat → Int32} {j : Nat} {so sz : Int32} (hS : ShE χ σ) (hj : j < 4) (h : ShZ σ j so sz 40 σ') : ShE (becS χ j so sz) σ' := by
  obtain ⟨h1, h2, h3, h4, _⟩ := h
  intro i hi
  by_cases e : i = j
  · subst e
    obtain ⟨b1, b2, b3⟩ := bec_so (χ := χ) (j := i) (so := so) (sz := sz)
    exact ⟨by rw [b1, h1]; exact pk_us.symm, by rw [b2, h2]; exact pk_us.symm, fun k hk => by rw [b3 k hk, h3 k hk]⟩
  · obtain ⟨b1, b2, b3⟩ := bec_ne (χ := χ) (so := so) (sz := sz) hi hj e
    obtain ⟨c1, c2, c3⟩ := hS i hi
    exact ⟨by rw [b1, h1, pk_un e]; exact c1, by rw [b2, h2, pk_un e]; exact c2, fun k hk => by rw [b3, h4 _ (by omega)]; exact c3 k hk⟩
theorem setS_so {χ : Nat → Nat → Int32} {j i : Nat} {a v : Int32} (hi : i < 4) : soX (setS χ j a v) i = soX χ i ∧ siX (setS χ j a v) i = siX χ i ∨ j ≥ 4 := by
  by_cases hj : j < 4
  · left
    exact ⟨congrFun (setS_row (by omega)) 1, congrFun (setS_row (by omega)) 2⟩
  · right; omega
/-- what a number becomes in a sheet of a sort -/
def nuS (so v : Int32) : Int32 := if so = 0 then v.toInt8.toInt32 else if so = 1 then v.toInt16.toInt32 else v
theorem setS_at {χ : Nat → Nat → Int32} {j q kz : Nat} {v : Int32} (hk : χ (34 + j) 2 = nI kz) (hz : kz ≤ 40) (hq : q < kz) : setS χ j (nI q) v = upR χ (34 + j + 4) q (nuS (soX χ j) v) := by
  unfold setS nuS
  rw [if_neg (nI_pos (by omega)), hk, if_neg (fun h => by have := mi_le h (by omega) (by omega); omega), iN_nI (by omega)]
  show _ = upR χ (34 + j + 4) q (if χ (34 + j) 1 = 0 then _ else if χ (34 + j) 1 = 1 then _ else v)
  by_cases h0 : χ (34 + j) 1 = 0
  · rw [if_pos h0, if_pos h0]
  · rw [if_neg h0, if_neg h0]
    by_cases h1 : χ (34 + j) 1 = 1
    · rw [if_pos h1, if_pos h1]
    · rw [if_neg h1, if_neg h1]
theorem she_set {χ σ : Nat → Nat → Int32} {j q : Nat} {v : Int32} (hS : ShE χ σ) (hj : j < 4) (hq : q < 40) : ShE (upR χ (34 + j + 4) q v) (upR σ 11 (40 * j + q) v) := by
  intro i hi
  obtain ⟨c1, c2, c3⟩ := hS i hi
  refine ⟨?_, ?_, fun k hk => ?_⟩
  · show upR χ (34 + j + 4) q v (34 + i) 1 = upR σ 11 (40 * j + q) v 9 i
    rw [up_ne2 (by omega), up_ne2 (by decide)]; exact c1
  · show upR χ (34 + j + 4) q v (34 + i) 2 = upR σ 11 (40 * j + q) v 10 i
    rw [up_ne2 (by omega), up_ne2 (by decide)]; exact c2
  · show upR χ (34 + j + 4) q v (34 + i + 4) k = upR σ 11 (40 * j + q) v 11 (40 * i + k)
    rw [upR_self]
    by_cases e : i = j
    · subst e
      rw [upR_self]
      by_cases e2 : k = q
      · subst e2; rw [pk_us, pk_us]
      · rw [pk_un e2, pk_un (by omega)]; exact c3 k hk
    · rw [up_ne2 (by omega), pk_un (by omega)]; exact c3 k hk
theorem shf_11 {σ u : Nat → Nat → Int32} {k : Nat} {v : Int32} (h : ShF σ u) : ShF σ (upR u 11 k v) := fun o a b c => by rw [up_ne2 c]; exact h o a b c
theorem shf_9 {σ u : Nat → Nat → Int32} {k : Nat} {v : Int32} (h : ShF σ u) : ShF σ (upR u 9 k v) := fun o a b c => by rw [up_ne2 a]; exact h o a b c
theorem shf_10 {σ u : Nat → Nat → Int32} {k : Nat} {v : Int32} (h : ShF σ u) : ShF σ (upR u 10 k v) := fun o a b c => by rw [up_ne2 b]; exact h o a b c
theorem l41 {x : Int32} : ((40 : Int32) < x) = ¬ (x ≤ 40) := propext Int32.not_le.symm
theorem c40 (j : Nat) : (40 : Int32) * nI j = nI (40 * j) := by rw [show (40 : Int32) = nI 40 from rfl]; exact mul_nI 40 j
abbrev rm_yX8_sheet : Room := { frames := 1, cells := 0, slots := 0, locals := 22 }
set_option maxHeartbeats 800000 in
set_option maxRecDepth 100000 in
theorem kX8_sheet {l : Launch} {D : va_G} {cA : ClassId} {ad : Nat → Nat} {ρ T σ : Nat → Nat → Int32} {sz : Nat} {χ : Nat → Nat → Int32} {z w v0 : Int32} (hS : ShE χ σ) : MMi l yX8_sheet cX8_sheet 5 FieldType.int rm_yX8_sheet [.ref (ad 0), .int z, .int w, .int v0] D cA ad ρ T σ sz (fun (r : Int32) (u : Nat → Nat → Int32) => r = (sheetP χ z w v0).1 ∧ ShE (sheetP χ z w v0).2 u ∧ ShF σ u) (fun u : Nat → Nat → Int32 => ment ad cA ρ T u) := by
  refine gw_stI (Ff := fun u : Nat → Nat → Int32 => ment ad cA ρ T u) (own := RX8) (by decide +kernel) rfl (Nat.le_of_ble_eq_true rfl) ?_
  intro p e s m ar below meth c A Q F hE hsz hW hret ls hl
  obtain ⟨hx, hb, hml, hown, hts⟩ := id F
  have hl : lv_has ls 5 [(0, .ref (ad 0)), (1, .int z), (2, .int w), (3, .int v0)] := hl
  refine lv_iload_n hx hb dX8_sheet_0 rfl (lv_at hl 1 rfl) ?_
  refine lv_iconst (v := 0) hx hb dX8_sheet_1 (by decide) ?_
  refine lv_iconst (v := 3) hx hb dX8_sheet_2 (by decide) ?_
  refine gw_callP (As := [.int z, .int 0, .int 3]) (rest := []) F hl.1 (kX8_in) pd_yX8_in ml_RX8_72 st_yX8_in ini_RX8 cd_yX8_in ⟨rfl, rfl⟩ ⟨Nat.le_of_ble_eq_true rfl, Nat.le_of_ble_eq_true rfl⟩ rfl rfl (Nat.le_of_ble_eq_true rfl) ⟨Nat.zero_le _, Nat.zero_le _⟩ dX8_sheet_3 ?_
  refine lv_as (z := inP z 0 3) rfl ?_
  refine lv_if_eq (tgt := 29) hx hb dX8_sheet_6 (by decide) (fun c_1 => ?_) (fun c_1 => ?_)
  ·
    refine lv_bipush (v := (-2)) hx hb dX8_sheet_29 (by decide) ?_
    exact hret (-2) σ _ _ _ _ _ hW rfl rfl (by unfold sheetP; simp only [in_ite]; rw [if_pos (by rw [sh_in]; exact c_1)]; exact ⟨rfl, hS, ShF.rf⟩) dX8_sheet_31
  ·
    have c6n := c_1; obtain ⟨j, hj, rfl⟩ := sh_natM c_1; have hij : iN (nI j) = j := iN_nI (by omega); have hsj := hS j hj
    refine lv_iload_n hx hb dX8_sheet_9 rfl (lv_at hl 2 rfl) ?_
    refine lv_iconst (v := (-1)) hx hb dX8_sheet_10 (by decide) ?_
    refine lv_iconst (v := 2) hx hb dX8_sheet_11 (by decide) ?_
    refine gw_callP (As := [.int w, .int (-1), .int 2]) (rest := []) F hl.1 (kX8_in) pd_yX8_in ml_RX8_72 st_yX8_in ini_RX8 cd_yX8_in ⟨rfl, rfl⟩ ⟨Nat.le_of_ble_eq_true rfl, Nat.le_of_ble_eq_true rfl⟩ rfl rfl (Nat.le_of_ble_eq_true rfl) ⟨Nat.zero_le _, Nat.zero_le _⟩ dX8_sheet_12 ?_
    refine lv_as (z := inP w (-1) 2) rfl ?_
    refine lv_if_eq (tgt := 29) hx hb dX8_sheet_15 (by decide) (fun c_2 => ?_) (fun c_2 => ?_)
    ·
      refine lv_bipush (v := (-2)) hx hb dX8_sheet_29 (by decide) ?_
      exact hret (-2) σ _ _ _ _ _ hW rfl rfl (by unfold sheetP; simp only [in_ite]; rw [if_neg (by rw [sh_in]; exact c6n), if_pos c_2]; exact ⟨rfl, hS, ShF.rf⟩) dX8_sheet_31
    ·
      refine lv_iload_n hx hb dX8_sheet_18 rfl (lv_at hl 2 rfl) ?_
      refine lv_iconst (v := (-1)) hx hb dX8_sheet_19 (by decide) ?_
      refine lv_icmp_eq (tgt := 32) hx hb dX8_sheet_20 (by decide) (fun c_3 => ?_) (fun c_3 => ?_)
      ·
        refine lv_iload_n hx hb dX8_sheet_32 rfl (lv_at hl 2 rfl) ?_
        refine lv_iconst (v := (-1)) hx hb dX8_sheet_33 (by decide) ?_
        refine lv_icmp_eq (tgt := 44) hx hb dX8_sheet_34 (by decide) (fun c_4 => ?_) (fun c_4 => ?_)
        ·
          refine lv_aload_n hx hb dX8_sheet_44 rfl (lv_at hl 0 rfl) ?_
          refine mr_f F hW 14 (by decide) rfl fl_RX8_34 dX8_sheet_45 ?_
          refine lv_iload_n hx hb dX8_sheet_48 rfl (lv_at hl 1 rfl) ?_
          refine lv_iload_n hx hb dX8_sheet_49 rfl (lv_at hl 2 rfl) ?_
          refine mw_sheetSort F hW (vp_in_nI hj (by decide)) dX8_sheet_50 (fun H locs hW => ?_)
          have hW : MW D cA ad ρ T (upR σ 9 j w) A s s.heap H locs := by rw [nI_clamp (show j < 2 ^ 31 by omega)] at hW; exact hW
          refine lv_aload_n hx hb dX8_sheet_51 rfl (lv_at hl 0 rfl) ?_
          refine mr_f F hW 15 (by decide) rfl fl_RX8_37 dX8_sheet_52 ?_
          refine lv_iload_n hx hb dX8_sheet_55 rfl (lv_at hl 1 rfl) ?_
          refine lv_iload_n hx hb dX8_sheet_56 rfl (lv_at hl 2 rfl) ?_
          refine lv_iconst (v := (-1)) hx hb dX8_sheet_57 (by decide) ?_
          refine lv_icmp_ne (tgt := 65) hx hb dX8_sheet_58 (by decide) (fun c_5 => ?_) (fun c_5 => ?_)
          ·
            first | exact absurd c_3 c_5 | exact absurd c_5 c_3
          ·
            refine lv_iconst (v := 0) hx hb dX8_sheet_61 (by decide) ?_
            refine lv_goto (tgt := 66) hx hb dX8_sheet_62 (by decide) ?_
            refine mw_sheetSize F hW (vp_in_nI hj (by decide)) dX8_sheet_66 (fun H locs hW => ?_)
            have hW : MW D cA ad ρ T (upR (upR σ 9 j w) 10 j 0) A s s.heap H locs := by rw [nI_clamp (show j < 2 ^ 31 by omega)] at hW; exact hW
            refine lv_iconst (v := 0) hx hb dX8_sheet_67 (by decide) ?_
            refine lv_istore (lv' := [(4, .int 0), (0, .ref (ad 0)), (1, .int (nI j)), (2, .int w), (3, .int v0)]) hx hb dX8_sheet_68 hl (by decide) rfl (fun ls hl => ?_)
            have L70 : ∀ (k : Nat) (i : Nat) (σ' : Nat → Nat → Int32), (i ≤ 40) → (41 ≤ i + k) → (ShZ σ j w 0 i σ') → ∀ (H : Heap) (locs : List Loc) (ls : Array Slot), MW D cA ad ρ T σ' A s s.heap H locs → lv_has ls 5 [(4, .int (nI i)), (0, .ref (ad 0)), (1, .int (nI j))] → W p l e rm_yX8_sheet s m ar below meth c H locs 0 0 Q (F0 m 70 ls []) := by
              intro k
              induction k with
              | zero => intro i σ' h1 h2 hZ; exact absurd h2 (by omega)
              | succ k ih70 =>
                intro i σ' h1 h2 hZ H locs ls hW hl
                refine lv_iload hx hb dX8_sheet_70 (lv_at hl 0 rfl) ?_
                refine lv_bipush (v := 40) hx hb dX8_sheet_72 (by decide) ?_
                refine lv_icmp_ge (tgt := 96) hx hb dX8_sheet_74 (by decide) (fun c_6 => ?_) (fun c_6 => ?_)
                ·
                  obtain rfl : i = 40 := by have := mi_le (a := 40) (b := i) c_6 (by decide) (by omega); omega
                  have hZE : ShE (becS χ j (-1) 0) σ' := by have := shz_E hS hj hZ; rwa [show w = -1 from c_3] at this
                  refine lv_iconst (v := 1) hx hb dX8_sheet_96 (by decide) ?_
                  exact hret 1 σ' _ _ _ _ _ hW rfl rfl (by unfold sheetP; simp only [in_ite]; rw [if_neg (by rw [sh_in]; exact c6n), if_neg c_2, if_pos c_3, hij]; exact ⟨rfl, hZE, hZ.2.2.2.2⟩) dX8_sheet_97
                ·
                  have hlt : i < 40 := mi_nle (a := 40) (b := i) c_6 (by decide) (by omega)
                  refine lv_aload_n hx hb dX8_sheet_77 rfl (lv_at hl 1 rfl) ?_
                  refine mr_f F hW 16 (by decide) rfl fl_RX8_40 dX8_sheet_78 ?_
                  refine lv_bipush (v := 40) hx hb dX8_sheet_81 (by decide) ?_
                  refine lv_iload_n hx hb dX8_sheet_83 rfl (lv_at hl 2 rfl) ?_
                  refine lv_imul hx hb dX8_sheet_84 ?_
                  refine lv_as (z := nI (40 * j)) (c40 _) ?_
                  refine lv_iload hx hb dX8_sheet_85 (lv_at hl 0 rfl) ?_
                  refine lv_iadd hx hb dX8_sheet_87 ?_
                  refine lv_as (z := nI (40 * j + i)) (nI_add _ _) ?_
                  refine lv_iconst (v := 0) hx hb dX8_sheet_88 (by decide) ?_
                  refine mw_cells F hW (vp_in_nI (by omega) (by decide)) dX8_sheet_89 (fun H locs hW => ?_)
                  have hW : MW D cA ad ρ T (upR σ' 11 (40 * j + i) 0) A s s.heap H locs := by rw [nI_clamp (show 40 * j + i < 2 ^ 31 by omega)] at hW; exact hW
                  refine lv_iinc (v := nI (i + 1)) (lv' := [(4, .int (nI (i + 1))), (0, .ref (ad 0)), (1, .int (nI j))]) hx hb dX8_sheet_90 hl (k := 0) rfl (nI_1 i) (by decide) rfl (fun ls hl => ?_)
                  refine lv_goto (tgt := 70) hx hb dX8_sheet_93 (by decide) ?_
                  exact ih70 (i + 1) _ (by omega) (by omega) (shz_s hZ hlt) _ _ _ hW (lv_sub hl [0, 1, 2] rfl)
            exact L70 41 0 _ (by omega) (by omega) (shz_0) _ _ _ hW (lv_sub hl [0, 1, 2] rfl)
        ·
          first | exact absurd c_3 c_4 | exact absurd c_4 c_3
      ·
        refine lv_iload_n hx hb dX8_sheet_23 rfl (lv_at hl 3 rfl) ?_
        refine lv_bipush (v := 40) hx hb dX8_sheet_24 (by decide) ?_
        refine lv_icmp_le (tgt := 32) hx hb dX8_sheet_26 (by decide) (fun c_7 => ?_) (fun c_7 => ?_)
        ·
          refine lv_iload_n hx hb dX8_sheet_32 rfl (lv_at hl 2 rfl) ?_
          refine lv_iconst (v := (-1)) hx hb dX8_sheet_33 (by decide) ?_
          refine lv_icmp_eq (tgt := 44) hx hb dX8_sheet_34 (by decide) (fun c_8 => ?_) (fun c_8 => ?_)
          ·
            first | exact absurd c_3 c_8 | exact absurd c_8 c_3
          ·
            refine lv_iload_n hx hb dX8_sheet_37 rfl (lv_at hl 3 rfl) ?_
            refine lv_if_ge (tgt := 44) hx hb dX8_sheet_38 (by decide) (fun c_9 => ?_) (fun c_9 => ?_)
            ·
              refine lv_aload_n hx hb dX8_sheet_44 rfl (lv_at hl 0 rfl) ?_
              refine mr_f F hW 14 (by decide) rfl fl_RX8_34 dX8_sheet_45 ?_
              refine lv_iload_n hx hb dX8_sheet_48 rfl (lv_at hl 1 rfl) ?_
              refine lv_iload_n hx hb dX8_sheet_49 rfl (lv_at hl 2 rfl) ?_
              refine mw_sheetSort F hW (vp_in_nI hj (by decide)) dX8_sheet_50 (fun H locs hW => ?_)
              have hW : MW D cA ad ρ T (upR σ 9 j w) A s s.heap H locs := by rw [nI_clamp (show j < 2 ^ 31 by omega)] at hW; exact hW
              refine lv_aload_n hx hb dX8_sheet_51 rfl (lv_at hl 0 rfl) ?_
              refine mr_f F hW 15 (by decide) rfl fl_RX8_37 dX8_sheet_52 ?_
              refine lv_iload_n hx hb dX8_sheet_55 rfl (lv_at hl 1 rfl) ?_
              refine lv_iload_n hx hb dX8_sheet_56 rfl (lv_at hl 2 rfl) ?_
              refine lv_iconst (v := (-1)) hx hb dX8_sheet_57 (by decide) ?_
              refine lv_icmp_ne (tgt := 65) hx hb dX8_sheet_58 (by decide) (fun c_10 => ?_) (fun c_10 => ?_)
              ·
                refine lv_iload_n hx hb dX8_sheet_65 rfl (lv_at hl 3 rfl) ?_
                refine mw_sheetSize F hW (vp_in_nI hj (by decide)) dX8_sheet_66 (fun H locs hW => ?_)
                have hW : MW D cA ad ρ T (upR (upR σ 9 j w) 10 j v0) A s s.heap H locs := by rw [nI_clamp (show j < 2 ^ 31 by omega)] at hW; exact hW
                refine lv_iconst (v := 0) hx hb dX8_sheet_67 (by decide) ?_
                refine lv_istore (lv' := [(4, .int 0), (0, .ref (ad 0)), (1, .int (nI j)), (2, .int w), (3, .int v0)]) hx hb dX8_sheet_68 hl (by decide) rfl (fun ls hl => ?_)
                have L70 : ∀ (k : Nat) (i : Nat) (σ' : Nat → Nat → Int32), (i ≤ 40) → (41 ≤ i + k) → (ShZ σ j w v0 i σ') → ∀ (H : Heap) (locs : List Loc) (ls : Array Slot), MW D cA ad ρ T σ' A s s.heap H locs → lv_has ls 5 [(4, .int (nI i)), (0, .ref (ad 0)), (1, .int (nI j))] → W p l e rm_yX8_sheet s m ar below meth c H locs 0 0 Q (F0 m 70 ls []) := by
                  intro k
                  induction k with
                  | zero => intro i σ' h1 h2 hZ; exact absurd h2 (by omega)
                  | succ k ih70 =>
                    intro i σ' h1 h2 hZ H locs ls hW hl
                    refine lv_iload hx hb dX8_sheet_70 (lv_at hl 0 rfl) ?_
                    refine lv_bipush (v := 40) hx hb dX8_sheet_72 (by decide) ?_
                    refine lv_icmp_ge (tgt := 96) hx hb dX8_sheet_74 (by decide) (fun c_11 => ?_) (fun c_11 => ?_)
                    ·
                      obtain rfl : i = 40 := by have := mi_le (a := 40) (b := i) c_11 (by decide) (by omega); omega
                      have hZE : ShE (becS χ j w v0) σ' := shz_E hS hj hZ
                      refine lv_iconst (v := 1) hx hb dX8_sheet_96 (by decide) ?_
                      exact hret 1 σ' _ _ _ _ _ hW rfl rfl (by unfold sheetP; simp only [in_ite]; rw [if_neg (by rw [sh_in]; exact c6n), if_neg c_2, if_neg c_3, if_neg (Int32.not_lt.mpr c_7), if_neg (Int32.not_lt.mpr c_9), hij]; exact ⟨rfl, hZE, hZ.2.2.2.2⟩) dX8_sheet_97
                    ·
                      have hlt : i < 40 := mi_nle (a := 40) (b := i) c_11 (by decide) (by omega)
                      refine lv_aload_n hx hb dX8_sheet_77 rfl (lv_at hl 1 rfl) ?_
                      refine mr_f F hW 16 (by decide) rfl fl_RX8_40 dX8_sheet_78 ?_
                      refine lv_bipush (v := 40) hx hb dX8_sheet_81 (by decide) ?_
                      refine lv_iload_n hx hb dX8_sheet_83 rfl (lv_at hl 2 rfl) ?_
                      refine lv_imul hx hb dX8_sheet_84 ?_
                      refine lv_as (z := nI (40 * j)) (c40 _) ?_
                      refine lv_iload hx hb dX8_sheet_85 (lv_at hl 0 rfl) ?_
                      refine lv_iadd hx hb dX8_sheet_87 ?_
                      refine lv_as (z := nI (40 * j + i)) (nI_add _ _) ?_
                      refine lv_iconst (v := 0) hx hb dX8_sheet_88 (by decide) ?_
                      refine mw_cells F hW (vp_in_nI (by omega) (by decide)) dX8_sheet_89 (fun H locs hW => ?_)
                      have hW : MW D cA ad ρ T (upR σ' 11 (40 * j + i) 0) A s s.heap H locs := by rw [nI_clamp (show 40 * j + i < 2 ^ 31 by omega)] at hW; exact hW
                      refine lv_iinc (v := nI (i + 1)) (lv' := [(4, .int (nI (i + 1))), (0, .ref (ad 0)), (1, .int (nI j))]) hx hb dX8_sheet_90 hl (k := 0) rfl (nI_1 i) (by decide) rfl (fun ls hl => ?_)
                      refine lv_goto (tgt := 70) hx hb dX8_sheet_93 (by decide) ?_
                      exact ih70 (i + 1) _ (by omega) (by omega) (shz_s hZ hlt) _ _ _ hW (lv_sub hl [0, 1, 2] rfl)
                exact L70 41 0 _ (by omega) (by omega) (shz_0) _ _ _ hW (lv_sub hl [0, 1, 2] rfl)
              ·
                first | exact absurd c_3 c_10 | exact absurd c_10 c_3
            ·
              refine lv_bipush (v := (-14)) hx hb dX8_sheet_41 (by decide) ?_
              exact hret (-14) σ _ _ _ _ _ hW rfl rfl (by unfold sheetP; simp only [in_ite]; rw [if_neg (by rw [sh_in]; exact c6n), if_neg c_2, if_neg c_3, if_neg (Int32.not_lt.mpr c_7), if_pos (Int32.not_le.mp c_9)]; exact ⟨rfl, hS, ShF.rf⟩) dX8_sheet_43
        ·
          refine lv_bipush (v := (-2)) hx hb dX8_sheet_29 (by decide) ?_
          exact hret (-2) σ _ _ _ _ _ hW rfl rfl (by unfold sheetP; simp only [in_ite]; rw [if_neg (by rw [sh_in]; exact c6n), if_neg c_2, if_neg c_3, if_pos (Int32.not_le.mp c_7)]; exact ⟨rfl, hS, ShF.rf⟩) dX8_sheet_31
theorem cell_no {χ σ : Nat → Nat → Int32} {j kz : Nat} {z w v : Int32} (hS : ShE χ σ) (h6 : ¬ inP z 0 3 = 0) (hz : iN z = j) (h1 : ¬ soX χ j = -1) (hkk : χ (34 + j) 2 = nI kz) (hk : kz < 2 ^ 31) (h : inP w 0 (nI kz - 1) = 0) : (-12 : Int32) = (cellP χ z w v).1 ∧ ShE (cellP χ z w v).2 σ ∧ ShF σ σ := by
  unfold cellP
  rw [if_neg (by rw [sh_in]; exact h6), hz, if_neg (show ¬ χ (34 + j) 1 = -1 from h1)]
  rcases inP_lt hk h with h0 | ⟨h0, h2⟩
  · rw [if_pos h0]; exact ⟨rfl, hS, ShF.rf⟩
  · rw [if_neg h0, if_neg (by rw [hkk]; exact h2)]; exact ⟨rfl, hS, ShF.rf⟩
abbrev rm_yX8_cell : Room := { frames := 1, cells := 0, slots := 0, locals := 22 }
set_option maxHeartbeats 800000 in
set_option maxRecDepth 100000 in
theorem kX8_cell {l : Launch} {D : va_G} {cA : ClassId} {ad : Nat → Nat} {ρ T σ : Nat → Nat → Int32} {sz : Nat} {χ : Nat → Nat → Int32} {z w v0 : Int32} (hS : ShE χ σ) (hO : okS χ) : MMi l yX8_cell cX8_cell 4 FieldType.int rm_yX8_cell [.ref (ad 0), .int z, .int w, .int v0] D cA ad ρ T σ sz (fun (r : Int32) (u : Nat → Nat → Int32) => r = (cellP χ z w v0).1 ∧ ShE (cellP χ z w v0).2 u ∧ ShF σ u) (fun u : Nat → Nat → Int32 => ment ad cA ρ T u) := by
  refine gw_stI (Ff := fun u : Nat → Nat → Int32 => ment ad cA ρ T u) (own := RX8) (by decide +kernel) rfl (Nat.le_of_ble_eq_true rfl) ?_
  intro p e s m ar below meth c A Q F hE hsz hW hret ls hl
  obtain ⟨hx, hb, hml, hown, hts⟩ := id F
  have hl : lv_has ls 4 [(0, .ref (ad 0)), (1, .int z), (2, .int w), (3, .int v0)] := hl
  refine lv_iload_n hx hb dX8_cell_0 rfl (lv_at hl 1 rfl) ?_
  refine lv_iconst (v := 0) hx hb dX8_cell_1 (by decide) ?_
  refine lv_iconst (v := 3) hx hb dX8_cell_2 (by decide) ?_
  refine gw_callP (As := [.int z, .int 0, .int 3]) (rest := []) F hl.1 (kX8_in) pd_yX8_in ml_RX8_72 st_yX8_in ini_RX8 cd_yX8_in ⟨rfl, rfl⟩ ⟨Nat.le_of_ble_eq_true rfl, Nat.le_of_ble_eq_true rfl⟩ rfl rfl (Nat.le_of_ble_eq_true rfl) ⟨Nat.zero_le _, Nat.zero_le _⟩ dX8_cell_3 ?_
  refine lv_as (z := inP z 0 3) rfl ?_
  refine lv_if_ne (tgt := 12) hx hb dX8_cell_6 (by decide) (fun c_1 => ?_) (fun c_1 => ?_)
  ·
    have c6n := c_1; obtain ⟨j, hj, rfl⟩ := sh_natM c_1; have hij : iN (nI j) = j := iN_nI (by omega); have hsj := hS j hj
    refine lv_aload_n hx hb dX8_cell_12 rfl (lv_at hl 0 rfl) ?_
    refine mr_f F hW 14 (by decide) rfl fl_RX8_34 dX8_cell_13 ?_
    refine lv_iload_n hx hb dX8_cell_16 rfl (lv_at hl 1 rfl) ?_
    refine mr_sheetSort F hW (vp_in_nI hj (by decide)) dX8_cell_17 ?_
    refine lv_as (z := σ 9 j) (by rw [nI_clamp (show j < 2 ^ 31 by omega)]) ?_
    refine lv_iconst (v := (-1)) hx hb dX8_cell_18 (by decide) ?_
    refine lv_icmp_ne (tgt := 25) hx hb dX8_cell_19 (by decide) (fun c_2 => ?_) (fun c_2 => ?_)
    ·
      refine lv_iload_n hx hb dX8_cell_25 rfl (lv_at hl 2 rfl) ?_
      refine lv_iconst (v := 0) hx hb dX8_cell_26 (by decide) ?_
      refine lv_aload_n hx hb dX8_cell_27 rfl (lv_at hl 0 rfl) ?_
      refine mr_f F hW 15 (by decide) rfl fl_RX8_37 dX8_cell_28 ?_
      refine lv_iload_n hx hb dX8_cell_31 rfl (lv_at hl 1 rfl) ?_
      refine mr_sheetSize F hW (vp_in_nI hj (by decide)) dX8_cell_32 ?_
      refine lv_as (z := σ 10 j) (by rw [nI_clamp (show j < 2 ^ 31 by omega)]) ?_
      obtain ⟨kz, hkz, hkk⟩ := hO j hj
      have hsz1 : σ 10 j = nI kz := by rw [← hsj.2.1]; exact hkk
      refine lv_as (z := nI kz) hsz1 ?_
      refine lv_iconst (v := 1) hx hb dX8_cell_33 (by decide) ?_
      refine lv_isub hx hb dX8_cell_34 ?_
      refine gw_callP (As := [.int w, .int 0, .int ((nI kz) - 1)]) (rest := []) F hl.1 (kX8_in) pd_yX8_in ml_RX8_72 st_yX8_in ini_RX8 cd_yX8_in ⟨rfl, rfl⟩ ⟨Nat.le_of_ble_eq_true rfl, Nat.le_of_ble_eq_true rfl⟩ rfl rfl (Nat.le_of_ble_eq_true rfl) ⟨Nat.zero_le _, Nat.zero_le _⟩ dX8_cell_35 ?_
      refine lv_as (z := inP w 0 ((nI kz) - 1)) rfl ?_
      refine lv_if_ne (tgt := 44) hx hb dX8_cell_38 (by decide) (fun c_3 => ?_) (fun c_3 => ?_)
      ·
        have c38n := inP_nlt (k := kz) (by omega) c_3; obtain ⟨q, hqn, rfl⟩ := nI_of c38n.1; have hqz : q < kz := mi_lt c38n.2 hqn (by omega)
        refine lv_aload_n hx hb dX8_cell_44 rfl (lv_at hl 0 rfl) ?_
        refine mr_f F hW 16 (by decide) rfl fl_RX8_40 dX8_cell_45 ?_
        refine lv_bipush (v := 40) hx hb dX8_cell_48 (by decide) ?_
        refine lv_iload_n hx hb dX8_cell_50 rfl (lv_at hl 1 rfl) ?_
        refine lv_imul hx hb dX8_cell_51 ?_
        refine lv_as (z := nI (40 * j)) (c40 _) ?_
        refine lv_iload_n hx hb dX8_cell_52 rfl (lv_at hl 2 rfl) ?_
        refine lv_iadd hx hb dX8_cell_53 ?_
        refine lv_as (z := nI (40 * j + q)) (nI_add _ _) ?_
        refine lv_aload_n hx hb dX8_cell_54 rfl (lv_at hl 0 rfl) ?_
        refine mr_f F hW 14 (by decide) rfl fl_RX8_34 dX8_cell_55 ?_
        refine lv_iload_n hx hb dX8_cell_58 rfl (lv_at hl 1 rfl) ?_
        refine mr_sheetSort F hW (vp_in_nI hj (by decide)) dX8_cell_59 ?_
        refine lv_as (z := σ 9 j) (by rw [nI_clamp (show j < 2 ^ 31 by omega)]) ?_
        refine lv_if_ne (tgt := 68) hx hb dX8_cell_60 (by decide) (fun c_4 => ?_) (fun c_4 => ?_)
        ·
          refine lv_aload_n hx hb dX8_cell_68 rfl (lv_at hl 0 rfl) ?_
          refine mr_f F hW 14 (by decide) rfl fl_RX8_34 dX8_cell_69 ?_
          refine lv_iload_n hx hb dX8_cell_72 rfl (lv_at hl 1 rfl) ?_
          refine mr_sheetSort F hW (vp_in_nI hj (by decide)) dX8_cell_73 ?_
          refine lv_as (z := σ 9 j) (by rw [nI_clamp (show j < 2 ^ 31 by omega)]) ?_
          refine lv_iconst (v := 1) hx hb dX8_cell_74 (by decide) ?_
          refine lv_icmp_ne (tgt := 83) hx hb dX8_cell_75 (by decide) (fun c_5 => ?_) (fun c_5 => ?_)
          ·
            refine lv_iload_n hx hb dX8_cell_83 rfl (lv_at hl 3 rfl) ?_
            refine mw_cells F hW (vp_in_nI (by omega) (by decide)) dX8_cell_84 (fun H locs hW => ?_)
            have hW : MW D cA ad ρ T (upR σ 11 (40 * j + q) v0) A s s.heap H locs := by rw [nI_clamp (show 40 * j + q < 2 ^ 31 by omega)] at hW; exact hW
            refine lv_iconst (v := 1) hx hb dX8_cell_85 (by decide) ?_
            exact hret 1 (upR σ 11 (40 * j + q) v0) _ _ _ _ _ hW rfl rfl (by unfold cellP; rw [if_neg (by rw [sh_in]; exact c6n), hij, if_neg (show ¬ χ (34 + j) 1 = -1 from fun e => c_2 (hsj.1.symm.trans e)), if_neg c38n.1, if_pos (by rw [hkk]; exact c38n.2), setS_at hkk hkz hqz, show nuS (soX χ j) v0 = _ from ((if_neg (fun e => c_4 (hsj.1.symm.trans e))).trans (if_neg (fun e => c_5 (hsj.1.symm.trans e))))]; exact ⟨rfl, she_set hS hj (by omega), shf_11 ShF.rf⟩) dX8_cell_86
          ·
            refine lv_iload_n hx hb dX8_cell_78 rfl (lv_at hl 3 rfl) ?_
            refine lv_i2s hx hb dX8_cell_79 rfl ?_
            refine lv_goto (tgt := 84) hx hb dX8_cell_80 (by decide) ?_
            refine mw_cells F hW (vp_in_nI (by omega) (by decide)) dX8_cell_84 (fun H locs hW => ?_)
            have hW : MW D cA ad ρ T (upR σ 11 (40 * j + q) v0.toInt16.toInt32) A s s.heap H locs := by rw [nI_clamp (show 40 * j + q < 2 ^ 31 by omega)] at hW; exact hW
            refine lv_iconst (v := 1) hx hb dX8_cell_85 (by decide) ?_
            exact hret 1 (upR σ 11 (40 * j + q) v0.toInt16.toInt32) _ _ _ _ _ hW rfl rfl (by unfold cellP; rw [if_neg (by rw [sh_in]; exact c6n), hij, if_neg (show ¬ χ (34 + j) 1 = -1 from fun e => c_2 (hsj.1.symm.trans e)), if_neg c38n.1, if_pos (by rw [hkk]; exact c38n.2), setS_at hkk hkz hqz, show nuS (soX χ j) v0 = _ from ((if_neg (fun e => c_4 (hsj.1.symm.trans e))).trans (if_pos (hsj.1.trans c_5)))]; exact ⟨rfl, she_set hS hj (by omega), shf_11 ShF.rf⟩) dX8_cell_86
        ·
          refine lv_iload_n hx hb dX8_cell_63 rfl (lv_at hl 3 rfl) ?_
          refine lv_i2b hx hb dX8_cell_64 rfl ?_
          refine lv_goto (tgt := 84) hx hb dX8_cell_65 (by decide) ?_
          refine mw_cells F hW (vp_in_nI (by omega) (by decide)) dX8_cell_84 (fun H locs hW => ?_)
          have hW : MW D cA ad ρ T (upR σ 11 (40 * j + q) v0.toInt8.toInt32) A s s.heap H locs := by rw [nI_clamp (show 40 * j + q < 2 ^ 31 by omega)] at hW; exact hW
          refine lv_iconst (v := 1) hx hb dX8_cell_85 (by decide) ?_
          exact hret 1 (upR σ 11 (40 * j + q) v0.toInt8.toInt32) _ _ _ _ _ hW rfl rfl (by unfold cellP; rw [if_neg (by rw [sh_in]; exact c6n), hij, if_neg (show ¬ χ (34 + j) 1 = -1 from fun e => c_2 (hsj.1.symm.trans e)), if_neg c38n.1, if_pos (by rw [hkk]; exact c38n.2), setS_at hkk hkz hqz, show nuS (soX χ j) v0 = _ from (if_pos (hsj.1.trans c_4))]; exact ⟨rfl, she_set hS hj (by omega), shf_11 ShF.rf⟩) dX8_cell_86
      ·
        refine lv_bipush (v := (-12)) hx hb dX8_cell_41 (by decide) ?_
        exact hret (-12) σ _ _ _ _ _ hW rfl rfl (cell_no hS c6n hij (fun e => c_2 (hsj.1.symm.trans e)) hkk (by omega) c_3) dX8_cell_43
    ·
      refine lv_bipush (v := (-11)) hx hb dX8_cell_22 (by decide) ?_
      exact hret (-11) σ _ _ _ _ _ hW rfl rfl (by unfold cellP; rw [if_neg (by rw [sh_in]; exact c6n), hij, if_pos (show χ (34 + j) 1 = -1 from hsj.1.trans c_2)]; exact ⟨rfl, hS, ShF.rf⟩) dX8_cell_24
  ·
    refine lv_bipush (v := (-2)) hx hb dX8_cell_9 (by decide) ?_
    exact hret (-2) σ _ _ _ _ _ hW rfl rfl (by unfold cellP; rw [if_pos (by rw [sh_in]; exact c_1)]; exact ⟨rfl, hS, ShF.rf⟩) dX8_cell_11
theorem pass_cnt {n : Nat} {Lx : Lw} {T : Tb} (hT : okT n T) : ∃ k, k ≤ 6 ∧ (passS Lx T).2 = nI k := by
  have h6 := hT.1
  have key : ∀ q, q ≤ seatsN T → ∃ k, k ≤ q ∧ (passK Lx T q).2 = nI k := by
    intro q
    induction q with
    | zero => intro _; exact ⟨0, Nat.le_refl _, rfl⟩
    | succ q ih =>
      intro hq
      obtain ⟨k, h1, h2⟩ := ih (by omega)
      show ∃ k, k ≤ q + 1 ∧ (oneStep Lx (passK Lx T q) q).2 = nI k
      unfold oneStep
      split
      · exact ⟨k, by omega, h2⟩
      · exact ⟨k + 1, by omega, by show (passK Lx T q).2 + 1 = _; rw [h2, nI_1]⟩
  obtain ⟨k, h1, h2⟩ := key _ (Nat.le_refl _)
  exact ⟨k, by omega, h2⟩
theorem byte_6 : ∀ k, k ≤ 6 → (nI k).toInt8.toInt32 = nI k := by decide +kernel
theorem film_T (Lx : Lw) (T : Tb) (χ : Nat → Nat → Int32) (j k : Nat) : ∀ i, (filmK Lx T χ j k i).1 = (passN Lx T i).1
  | 0 => rfl
  | i + 1 => by
    show (passS Lx (filmK Lx T χ j k i).1).1 = (passS Lx (passN Lx T i).1).1
    rw [film_T Lx T χ j k i]
/-- a film's number i -/
def fvP (Lx : Lw) (T : Tb) (k i : Nat) : Int32 := if i < k then (passS Lx (passN Lx T i).1).2 else 0
/-- behind i numbers of a film -/
theorem film_R {n : Nat} {Lx : Lw} {T : Tb} (hT : okT n T) {χ : Nat → Nat → Int32} {j k : Nat} (hk : k ≤ 20) : ∀ i, i ≤ k → (∀ o, o ≠ 34 + j + 4 → (filmK Lx T χ j k i).2 o = becS χ j 0 (nI k) o) ∧ ∀ q, q < 40 → (filmK Lx T χ j k i).2 (34 + j + 4) q = if q < i then fvP Lx T k q else 0
  | 0, _ => ⟨fun _ _ => rfl, fun q hq => by rw [if_neg (by omega)]; exact (bec_so (χ := χ) (j := j) (so := 0) (sz := nI k)).2.2 q hq⟩
  | i + 1, hi => by
    obtain ⟨h1, h2⟩ := film_R hT (χ := χ) (j := j) hk i (by omega)
    have hF : (filmK Lx T χ j k (i + 1)).2 = setS (filmK Lx T χ j k i).2 j (nI i) (passS Lx (filmK Lx T χ j k i).1).2 := rfl
    have hz : (filmK Lx T χ j k i).2 (34 + j) 2 = nI k := by rw [h1 _ (by omega)]; exact (bec_so (χ := χ) (j := j) (so := 0) (sz := nI k)).2.1
    have hso : soX (filmK Lx T χ j k i).2 j = 0 := by
      show (filmK Lx T χ j k i).2 (34 + j) 1 = 0
      rw [h1 _ (by omega)]; exact (bec_so (χ := χ) (j := j) (so := 0) (sz := nI k)).1
    obtain ⟨w, hw, ew⟩ := pass_cnt (Lx := Lx) (ok_passN (Lx := Lx) hT i).1
    have hv : nuS (soX (filmK Lx T χ j k i).2 j) (passS Lx (filmK Lx T χ j k i).1).2 = fvP Lx T k i := by
      rw [hso, film_T]
      unfold nuS fvP
      rw [if_pos rfl, if_pos (by omega), ew, byte_6 w hw]
    rw [hF, setS_at hz (by omega) (by omega), hv]
    refine ⟨fun o ho => by rw [up_ne2 ho]; exact h1 o ho, fun q hq => ?_⟩
    rw [upR_self]
    by_cases e : q = i
    · subst e; rw [pk_us, if_pos (by omega)]
    · rw [pk_un e, h2 q hq]
      by_cases h : q < i
      · rw [if_pos h, if_pos (by omega)]
      · rw [if_neg h, if_neg (by omega)]
/-- the reference's sheet, its first i numbers told -/
def ShG (σ : Nat → Nat → Int32) (j : Nat) (so sz : Int32) (f : Nat → Int32) (i : Nat) (σ' : Nat → Nat → Int32) : Prop := σ' 9 = upd (σ 9) j so ∧ σ' 10 = upd (σ 10) j sz ∧ (∀ k, k < i → σ' 11 (40 * j + k) = f k) ∧ (∀ q, ¬ (40 * j ≤ q ∧ q < 40 * j + 40) → σ' 11 q = σ 11 q) ∧ ShF σ σ'
theorem shg_0 {σ : Nat → Nat → Int32} {j : Nat} {so sz : Int32} {f : Nat → Int32} : ShG σ j so sz f 0 (upR (upR σ 9 j so) 10 j sz) := by
  refine ⟨by rw [up_ne2 (by decide), upR_self], by rw [upR_self, up_ne2 (by decide)], fun k hk => absurd hk (by omega), fun q _ => by rw [up_ne2 (by decide), up_ne2 (by decide)], fun o h1 h2 _ => by rw [up_ne2 h2, up_ne2 h1]⟩
theorem shg_s {σ σ' : Nat → Nat → Int32} {j i : Nat} {so sz v : Int32} {f : Nat → Int32} (h : ShG σ j so sz f i σ') (hi : i < 40) (hv : v = f i) : ShG σ j so sz f (i + 1) (upR σ' 11 (40 * j + i) v) := by
  obtain ⟨h1, h2, h3, h4, h5⟩ := h
  subst hv
  refine ⟨by rw [up_ne2 (by decide)]; exact h1, by rw [up_ne2 (by decide)]; exact h2, fun k hk => ?_, fun q hq => ?_, fun o a b c => by rw [up_ne2 c]; exact h5 o a b c⟩
  · rw [upR_self]
    by_cases e : k = i
    · subst e; exact pk_us
    · rw [pk_un (by omega)]; exact h3 k (by omega)
  · rw [upR_self, pk_un (by omega)]; exact h4 q hq
theorem film_E {n : Nat} {Lx : Lw} {T : Tb} (hT : okT n T) {χ σ σ' : Nat → Nat → Int32} {j k : Nat} (hk : k ≤ 20) (hj : j < 4) (hS : ShE χ σ) (h : ShG σ j 0 (nI k) (fvP Lx T k) 40 σ') : ShE (filmK Lx T χ j k k).2 σ' := by
  obtain ⟨h1, h2, h3, h4, _⟩ := h
  obtain ⟨r1, r2⟩ := film_R (Lx := Lx) hT (χ := χ) (j := j) hk k (Nat.le_refl _)
  intro i hi
  by_cases e : i = j
  · subst e
    obtain ⟨b1, b2, b3⟩ := bec_so (χ := χ) (j := i) (so := 0) (sz := nI k)
    refine ⟨?_, ?_, fun q hq => ?_⟩
    · show (filmK Lx T χ i k k).2 (34 + i) 1 = _
      rw [r1 _ (by omega), h1, pk_us]; exact b1
    · show (filmK Lx T χ i k k).2 (34 + i) 2 = _
      rw [r1 _ (by omega), h2, pk_us]; exact b2
    · show (filmK Lx T χ i k k).2 (34 + i + 4) q = _
      rw [r2 q hq, h3 q hq]
      unfold fvP
      by_cases hq2 : q < k
      · rw [if_pos hq2]
      · rw [if_neg hq2, if_neg hq2]
  · obtain ⟨b1, b2, b3⟩ := bec_ne (χ := χ) (so := 0) (sz := nI k) hi hj e
    obtain ⟨c1, c2, c3⟩ := hS i hi
    refine ⟨?_, ?_, fun q hq => ?_⟩
    · show (filmK Lx T χ j k k).2 (34 + i) 1 = _
      rw [r1 _ (by omega), h1, pk_un e]; exact b1.trans c1
    · show (filmK Lx T χ j k k).2 (34 + i) 2 = _
      rw [r1 _ (by omega), h2, pk_un e]; exact b2.trans c2
    · show (filmK Lx T χ j k k).2 (34 + i + 4) q = _
      rw [r1 _ (by omega), h4 _ (by omega)]
      exact (congrFun b3 q).trans (c3 q hq)
/-- the reference's texts don't know of sheets -/
theorem okML_shf {n : Nat} {σ u : Nat → Nat → Int32} {Lx : Lw} (hM : okML n σ Lx) (h : ShF σ u) : okML n u Lx := by
  have e5 : u 5 = σ 5 := h 5 (by decide) (by decide) (by decide)
  have e6 : u 6 = σ 6 := h 6 (by decide) (by decide) (by decide)
  have em : ∀ t k, mst u t k = mst σ t k := fun t k => by unfold mst; rw [e6]
  unfold okML at hM ⊢
  simp only [em, e5, e6]
  exact hM
theorem film_no {Lx : Lw} {T : Tb} {χ σ : Nat → Nat → Int32} {z v : Int32} (hS : ShE χ σ) (h6 : ¬ inP z 0 3 = 0) (h : inP v 0 20 = 0) : (-7 : Int32) = (filmP Lx T χ z v).1 ∧ ShE (filmP Lx T χ z v).2 σ ∧ ShF σ σ := by
  unfold filmP
  rw [if_neg (by rw [sh_in]; exact h6)]
  by_cases h0 : v < 0
  · rw [if_pos h0]; exact ⟨rfl, hS, ShF.rf⟩
  · rw [in_z] at h
    rw [if_neg h0, if_pos (h.resolve_left h0)]; exact ⟨rfl, hS, ShF.rf⟩
abbrev rm_yX8_film : Room := { frames := 7, cells := 0, slots := 0, locals := 163 }
set_option maxHeartbeats 800000 in
set_option maxRecDepth 100000 in
theorem kX8_film {l : Launch} {D : va_G} {cA : ClassId} {ad : Nat → Nat} {ρ T σ : Nat → Nat → Int32} {sz : Nat} {χ : Nat → Nat → Int32}{n : Nat} {Lx : Lw} {z v0 : Int32} (hT : okT n T) (hM : okML n σ Lx) (hS : ShE χ σ) : MMi l yX8_film cX8_film 4 FieldType.int rm_yX8_film [.ref (ad 0), .int z, .int v0] D cA ad ρ T σ sz (fun (r : Int32) (u : (Nat → Nat → Int32) × (Nat → Nat → Int32)) => r = (filmP Lx T χ z v0).1 ∧ ShE (filmP Lx T χ z v0).2 u.2 ∧ ShF σ u.2) (fun u : (Nat → Nat → Int32) × (Nat → Nat → Int32) => ment ad cA u.1 T u.2) := by
  refine gw_stI (Ff := fun u : (Nat → Nat → Int32) × (Nat → Nat → Int32) => ment ad cA u.1 T u.2) (own := RX8) (by decide +kernel) rfl (Nat.le_of_ble_eq_true rfl) ?_
  intro p e s m ar below meth c A Q F hE hsz hW hret ls hl
  obtain ⟨hx, hb, hml, hown, hts⟩ := id F
  have hl : lv_has ls 4 [(0, .ref (ad 0)), (1, .int z), (2, .int v0)] := hl
  have hs6 := hT.1
  have hsN := hT.2.1
  refine lv_iload_n hx hb dX8_film_0 rfl (lv_at hl 1 rfl) ?_
  refine lv_iconst (v := 0) hx hb dX8_film_1 (by decide) ?_
  refine lv_iconst (v := 3) hx hb dX8_film_2 (by decide) ?_
  refine gw_callP (As := [.int z, .int 0, .int 3]) (rest := []) F hl.1 (kX8_in) pd_yX8_in ml_RX8_72 st_yX8_in ini_RX8 cd_yX8_in ⟨rfl, rfl⟩ ⟨Nat.le_of_ble_eq_true rfl, Nat.le_of_ble_eq_true rfl⟩ rfl rfl (Nat.le_of_ble_eq_true rfl) ⟨Nat.zero_le _, Nat.zero_le _⟩ dX8_film_3 ?_
  refine lv_as (z := inP z 0 3) rfl ?_
  refine lv_if_ne (tgt := 12) hx hb dX8_film_6 (by decide) (fun c_1 => ?_) (fun c_1 => ?_)
  ·
    have c6n := c_1; obtain ⟨j, hj, rfl⟩ := sh_natM c_1; have hij : iN (nI j) = j := iN_nI (by omega); have hsj := hS j hj
    refine lv_iload_n hx hb dX8_film_12 rfl (lv_at hl 2 rfl) ?_
    refine lv_iconst (v := 0) hx hb dX8_film_13 (by decide) ?_
    refine lv_bipush (v := 20) hx hb dX8_film_14 (by decide) ?_
    refine gw_callP (As := [.int v0, .int 0, .int 20]) (rest := []) F hl.1 (kX8_in) pd_yX8_in ml_RX8_72 st_yX8_in ini_RX8 cd_yX8_in ⟨rfl, rfl⟩ ⟨Nat.le_of_ble_eq_true rfl, Nat.le_of_ble_eq_true rfl⟩ rfl rfl (Nat.le_of_ble_eq_true rfl) ⟨Nat.zero_le _, Nat.zero_le _⟩ dX8_film_16 ?_
    refine lv_as (z := inP v0 0 20) rfl ?_
    refine lv_if_ne (tgt := 25) hx hb dX8_film_19 (by decide) (fun c_2 => ?_) (fun c_2 => ?_)
    ·
      have c19n := in_y c_2; obtain ⟨kz, hkz, rfl⟩ := in_nat (k := 20) (by decide) c_2; have hiz : iN (nI kz) = kz := iN_nI (by omega)
      refine lv_aload_n hx hb dX8_film_25 rfl (lv_at hl 0 rfl) ?_
      refine mr_f F hW 14 (by decide) rfl fl_RX8_34 dX8_film_26 ?_
      refine lv_iload_n hx hb dX8_film_29 rfl (lv_at hl 1 rfl) ?_
      refine lv_iconst (v := 0) hx hb dX8_film_30 (by decide) ?_
      refine mw_sheetSort F hW (vp_in_nI hj (by decide)) dX8_film_31 (fun H locs hW => ?_)
      have hW : MW D cA ad ρ T (upR σ 9 j 0) A s s.heap H locs := by rw [nI_clamp (show j < 2 ^ 31 by omega)] at hW; exact hW
      refine lv_aload_n hx hb dX8_film_32 rfl (lv_at hl 0 rfl) ?_
      refine mr_f F hW 15 (by decide) rfl fl_RX8_37 dX8_film_33 ?_
      refine lv_iload_n hx hb dX8_film_36 rfl (lv_at hl 1 rfl) ?_
      refine lv_iload_n hx hb dX8_film_37 rfl (lv_at hl 2 rfl) ?_
      refine mw_sheetSize F hW (vp_in_nI hj (by decide)) dX8_film_38 (fun H locs hW => ?_)
      have hW : MW D cA ad ρ T (upR (upR σ 9 j 0) 10 j (nI kz)) A s s.heap H locs := by rw [nI_clamp (show j < 2 ^ 31 by omega)] at hW; exact hW
      refine lv_aload_n hx hb dX8_film_39 rfl (lv_at hl 0 rfl) ?_
      refine gw_callVv (As := []) (rest := []) F hl.1 hW (fun _ _ _ => trivial) gw_T_E (by decide) (rfl : ment ad cA _ _ _ 0 = _) rfl (kX8_keeps) pd_yX8_keeps ml_RX8_195 im_yX8_keeps se_yX8_keeps ini_RX8 cd_yX8_keeps ⟨rfl, rfl⟩ ⟨Nat.le_of_ble_eq_true rfl, Nat.le_of_ble_eq_true rfl⟩ rfl rfl (Nat.le_of_ble_eq_true rfl) ⟨Nat.zero_le _, Nat.zero_le _⟩ dX8_film_40 (fun ρ_3 H locs hp hW _ _ => ?_)
      obtain ⟨h0_4, hK_5⟩ := hp
      refine lv_iconst (v := 0) hx hb dX8_film_43 (by decide) ?_
      refine lv_istore_n (lv' := [(3, .int 0), (0, .ref (ad 0)), (1, .int (nI j)), (2, .int (nI kz))]) hx hb dX8_film_44 rfl hl (by decide) rfl (fun ls hl => ?_)
      have L45 : ∀ (k : Nat) (i : Nat) (ρ' : Nat → Nat → Int32) (T' : Tb) (σ' : Nat → Nat → Int32), (i ≤ 40) → (41 ≤ i + k) → (KeptOf (ρ' 17) T) → (okT n T') → (OutT T T') → (T' = (passN Lx T (min i kz)).1) → (ShG σ j 0 (nI kz) (fvP Lx T kz) i σ') → ∀ (H : Heap) (locs : List Loc) (ls : Array Slot), MW D cA ad ρ' T' σ' A s s.heap H locs → lv_has ls 4 [(3, .int (nI i)), (0, .ref (ad 0)), (1, .int (nI j)), (2, .int (nI kz))] → W p l e rm_yX8_film s m ar below meth c H locs 0 0 Q (F0 m 45 ls []) := by
        intro k
        induction k with
        | zero => intro i ρ' T' σ' h1 h2 hKk hT' hOT hTT hG; exact absurd h2 (by omega)
        | succ k ih45 =>
          intro i ρ' T' σ' h1 h2 hKk hT' hOT hTT hG H locs ls hW hl
          have hM' : okML n σ' Lx := okML_shf hM hG.2.2.2.2
          refine lv_iload_n hx hb dX8_film_45 rfl (lv_at hl 0 rfl) ?_
          refine lv_bipush (v := 40) hx hb dX8_film_46 (by decide) ?_
          refine lv_icmp_ge (tgt := 81) hx hb dX8_film_48 (by decide) (fun c_6 => ?_) (fun c_6 => ?_)
          ·
            obtain rfl : i = 40 := by have := mi_le (a := 40) (b := i) c_6 (by decide) (by omega); omega
            refine lv_aload_n hx hb dX8_film_81 rfl (lv_at hl 1 rfl) ?_
            refine gw_callVv (As := []) (rest := []) F hl.1 hW (fun _ _ _ => trivial) gw_T_E (by decide) (rfl : ment ad cA _ _ _ 0 = _) rfl (kX8_lays) pd_yX8_lays ml_RX8_201 im_yX8_lays se_yX8_lays ini_RX8 cd_yX8_lays ⟨rfl, rfl⟩ ⟨Nat.le_of_ble_eq_true rfl, Nat.le_of_ble_eq_true rfl⟩ rfl rfl (Nat.le_of_ble_eq_true rfl) ⟨Nat.zero_le _, Nat.zero_le _⟩ dX8_film_82 (fun T_7 H locs hp hW _ _ => ?_)
            have hp : T = T_7 := (hp.trans (lay_back (kept_kp hKk Kp.rf) hOT)).symm
            subst hp
            refine lv_iload_n hx hb dX8_film_85 rfl (lv_at hl 3 rfl) ?_
            exact hret (nI kz) (ρ', σ') _ _ _ _ _ hW rfl rfl (by unfold filmP; rw [if_neg (by rw [sh_in]; exact c6n), if_neg c19n.1, if_neg c19n.2, hij, hiz]; exact ⟨rfl, film_E hT hkz hj hS hG, hG.2.2.2.2⟩) dX8_film_86
          ·
            have hlt : i < 40 := mi_nle (a := 40) (b := i) c_6 (by decide) (by omega)
            refine lv_aload_n hx hb dX8_film_51 rfl (lv_at hl 1 rfl) ?_
            refine mr_f F hW 16 (by decide) rfl fl_RX8_40 dX8_film_52 ?_
            refine lv_bipush (v := 40) hx hb dX8_film_55 (by decide) ?_
            refine lv_iload_n hx hb dX8_film_57 rfl (lv_at hl 2 rfl) ?_
            refine lv_imul hx hb dX8_film_58 ?_
            refine lv_as (z := nI (40 * j)) (c40 _) ?_
            refine lv_iload_n hx hb dX8_film_59 rfl (lv_at hl 0 rfl) ?_
            refine lv_iadd hx hb dX8_film_60 ?_
            refine lv_as (z := nI (40 * j + i)) (nI_add _ _) ?_
            refine lv_iload_n hx hb dX8_film_61 rfl (lv_at hl 0 rfl) ?_
            refine lv_iload_n hx hb dX8_film_62 rfl (lv_at hl 3 rfl) ?_
            refine lv_icmp_ge (tgt := 73) hx hb dX8_film_63 (by decide) (fun c_8 => ?_) (fun c_8 => ?_)
            ·
              have hge : kz ≤ i := mi_le c_8 (by omega) (by omega)
              refine lv_iconst (v := 0) hx hb dX8_film_73 (by decide) ?_
              refine mw_cells F hW (vp_in_nI (by omega) (by decide)) dX8_film_74 (fun H locs hW => ?_)
              have hW : MW D cA ad ρ' T' (upR σ' 11 (40 * j + i) 0) A s s.heap H locs := by rw [nI_clamp (show 40 * j + i < 2 ^ 31 by omega)] at hW; exact hW
              refine lv_iinc (v := nI (i + 1)) (lv' := [(3, .int (nI (i + 1))), (0, .ref (ad 0)), (1, .int (nI j)), (2, .int (nI kz))]) hx hb dX8_film_75 hl (k := 0) rfl (nI_1 i) (by decide) rfl (fun ls hl => ?_)
              refine lv_goto (tgt := 45) hx hb dX8_film_78 (by decide) ?_
              exact ih45 (i + 1) ρ' T' (upR σ' 11 (40 * j + i) 0) (by omega) (by omega) (kept_kp hKk Kp.rf) (hT') (hOT) (by rw [hTT, Nat.min_eq_right hge, Nat.min_eq_right (by omega)]) (shg_s hG hlt (by unfold fvP; rw [if_neg (by omega)])) _ _ _ hW (lv_sub hl [0, 1, 2, 3] rfl)
            ·
              have hik : i < kz := mi_nle c_8 (by omega) (by omega)
              refine lv_aload_n hx hb dX8_film_66 rfl (lv_at hl 1 rfl) ?_
              refine gw_callVi (As := []) (rest := [.int (nI (40 * j + i)), .ref (ad 11)]) F hl.1 hW (fun _ _ _ => trivial) gw_T_E (by decide) (rfl : ment ad cA _ _ _ 0 = _) rfl (kX8_minuteOf (n := n) (Lx := Lx) hT' hM') pd_yX8_minuteOf ml_RX8_188 im_yX8_minuteOf se_yX8_minuteOf ini_RX8 cd_yX8_minuteOf ⟨rfl, rfl⟩ ⟨Nat.le_of_ble_eq_true rfl, Nat.le_of_ble_eq_true rfl⟩ rfl rfl (Nat.le_of_ble_eq_true rfl) ⟨Nat.zero_le _, Nat.zero_le _⟩ dX8_film_67 (fun r u H locs hp hW _ _ => ?_)
              obtain ⟨ρ_9, T_10⟩ := u
              obtain ⟨rfl, hk_11, hTe⟩ := hp
              have hTe : T_10 = (passS Lx T').1 := hTe
              subst hTe
              refine lv_as (z := (passS Lx T').2) rfl ?_
              refine lv_goto (tgt := 74) hx hb dX8_film_70 (by decide) ?_
              refine mw_cells F hW (vp_in_nI (by omega) (by decide)) dX8_film_74 (fun H locs hW => ?_)
              have hW : MW D cA ad ρ_9 ((passS Lx T').1) (upR σ' 11 (40 * j + i) ((passS Lx T').2)) A s s.heap H locs := by rw [nI_clamp (show 40 * j + i < 2 ^ 31 by omega)] at hW; exact hW
              refine lv_iinc (v := nI (i + 1)) (lv' := [(3, .int (nI (i + 1))), (0, .ref (ad 0)), (1, .int (nI j)), (2, .int (nI kz))]) hx hb dX8_film_75 hl (k := 0) rfl (nI_1 i) (by decide) rfl (fun ls hl => ?_)
              refine lv_goto (tgt := 45) hx hb dX8_film_78 (by decide) ?_
              exact ih45 (i + 1) ρ_9 ((passS Lx T').1) (upR σ' 11 (40 * j + i) ((passS Lx T').2)) (by omega) (by omega) (kept_kp hKk (Kp.trans Kp.rf hk_11)) ((ok_pass (Lx := Lx) hT').1) ((hOT.trans (out_pass (Lx := Lx) hT'))) (by rw [hTT, Nat.min_eq_left (by omega), Nat.min_eq_left (by omega)]; rfl) (shg_s hG hlt (by unfold fvP; rw [if_pos hik, hTT, Nat.min_eq_left (by omega)])) _ _ _ hW (lv_sub hl [0, 1, 2, 3] rfl)
      exact L45 41 0 _ _ _ (by omega) (by omega) (kept_kp hK_5 Kp.rf) (hT) (OutT.rf) (by rw [Nat.zero_min]; rfl) (shg_0) _ _ _ hW (lv_sub hl [0, 1, 2, 3] rfl)
    ·
      refine lv_bipush (v := (-7)) hx hb dX8_film_22 (by decide) ?_
      exact hret (-7) (ρ, σ) _ _ _ _ _ hW rfl rfl (film_no hS c6n c_2) dX8_film_24
  ·
    refine lv_bipush (v := (-2)) hx hb dX8_film_9 (by decide) ?_
    exact hret (-2) (ρ, σ) _ _ _ _ _ hW rfl rfl (by unfold filmP; rw [if_pos (by rw [sh_in]; exact c_1)]; exact ⟨rfl, hS, ShF.rf⟩) dX8_film_11
/-- numbers gone over, i of n, from a on to b on -/
def cpR (σ : Nat → Nat → Int32) (a b n i : Nat) (σ' : Nat → Nat → Int32) : Prop := (∀ q, ((a < b ∧ b + n - i ≤ q ∧ q < b + n) ∨ (b ≤ a ∧ b ≤ q ∧ q < b + i) → σ' 11 q = σ 11 (a + (q - b))) ∧ (¬ ((a < b ∧ b + n - i ≤ q ∧ q < b + n) ∨ (b ≤ a ∧ b ≤ q ∧ q < b + i)) → σ' 11 q = σ 11 q)) ∧ ∀ o, o ≠ 11 → σ' o = σ o
theorem cpR_0 {σ : Nat → Nat → Int32} {a b n : Nat} : cpR σ a b n 0 σ := ⟨fun q => ⟨fun h => absurd h (by omega), fun _ => rfl⟩, fun _ _ => rfl⟩
theorem cpR_s {σ σ' : Nat → Nat → Int32} {a b n i d : Nat} (h : cpR σ a b n i σ') (hi : i < n) (hd : (a < b ∧ d = n - 1 - i) ∨ (b ≤ a ∧ d = i)) : cpR σ a b n (i + 1) (upR σ' 11 (b + d) (σ' 11 (a + d))) := by
  obtain ⟨h1, h2⟩ := h
  refine ⟨fun q => ?_, fun o ho => by rw [up_ne2 ho]; exact h2 o ho⟩
  have hs := (h1 (a + d)).2 (by omega)
  rw [upR_self, hs]
  by_cases e : q = b + d
  · subst e
    rw [pk_us]
    exact ⟨fun _ => by rw [Nat.add_sub_cancel_left], fun hc => absurd (show _ by omega) hc⟩
  · rw [pk_un e]
    exact ⟨fun hc => (h1 q).1 (by omega), fun hc => (h1 q).2 (by omega)⟩
theorem cp_E {χ σ σ' : Nat → Nat → Int32} {j1 j2 ia jb m : Nat} (hS : ShE χ σ) (hj1 : j1 < 4) (hj2 : j2 < 4) (h1 : ia + m ≤ 40) (h2 : jb + m ≤ 40) (h : cpR σ (40 * j1 + ia) (40 * j2 + jb) m m σ') : ShE (cpyS χ j1 j2 (nI ia) (nI jb) (nI m)) σ' ∧ ShF σ σ' := by
  obtain ⟨r1, r2⟩ := h
  refine ⟨fun i hi => ?_, fun o _ _ ho => r2 o ho⟩
  obtain ⟨c1, c2, c3⟩ := hS i hi
  unfold cpyS
  rw [iN_nI (by omega), iN_nI (by omega), iN_nI (by omega)]
  refine ⟨?_, ?_, fun k hk => ?_⟩
  · show va_up χ _ _ (34 + i) 1 = σ' 9 i
    rw [va_up_ne _ _ (by omega), r2 9 (by decide)]; exact c1
  · show va_up χ _ _ (34 + i) 2 = σ' 10 i
    rw [va_up_ne _ _ (by omega), r2 10 (by decide)]; exact c2
  · show va_up χ _ _ (34 + i + 4) k = σ' 11 (40 * i + k)
    by_cases e : i = j2
    · subst e
      rw [va_up_self]
      unfold va_cpy
      by_cases hr : jb ≤ k ∧ k < jb + m
      · rw [if_pos hr, (r1 (40 * i + k)).1 (by omega)]
        have := (hS j1 hj1).2.2 (ia + (k - jb)) (by omega)
        rw [show 40 * j1 + ia + (40 * i + k - (40 * i + jb)) = 40 * j1 + (ia + (k - jb)) by omega]
        exact this
      · rw [if_neg hr, (r1 (40 * i + k)).2 (by omega)]
        exact c3 k hk
    · rw [va_up_ne _ _ (by omega), (r1 (40 * i + k)).2 (by omega)]
      exact c3 k hk
theorem cp_toI {S k x : Nat} (hS : S ≤ 40) (hk : k < 2 ^ 31) (hx2 : x < 2 ^ 31) : (nI S - nI k < nI x) = (S < x + k) := by
  apply propext
  rw [Int32.lt_iff_toInt_lt, Int32.toInt_sub, nI_toInt (show S < 2 ^ 31 by omega), nI_toInt hk, nI_toInt hx2, Int.bmod_eq_of_le (by omega) (by omega)]
  omega
theorem copy_no {χ σ : Nat → Nat → Int32} {z i y o k : Int32} {j1 j2 : Nat} (hS : ShE χ σ) (h6 : ¬ inP z 0 3 = 0) (h15 : ¬ inP y 0 3 = 0) (e1 : iN z = j1) (e2 : iN y = j2) (n1 : ¬ soX χ j1 = -1) (n2 : ¬ soX χ j2 = -1) (e : soX χ j1 = soX χ j2) (hk : ¬ k < 0) (hi : ¬ i < 0) (h : o < 0 ∨ siX χ j1 - k < i ∨ siX χ j2 - k < o) : (-12 : Int32) = (copyP χ z i y o k).1 ∧ ShE (copyP χ z i y o k).2 σ ∧ ShF σ σ := by
  unfold copyP
  rw [if_neg (by rw [sh_in]; exact h6), if_neg (by rw [sh_in]; exact h15), e1, e2, if_neg n1, if_neg n2, if_pos e, if_neg hk, if_neg hi]
  by_cases a1 : siX χ j1 - k < i
  · rw [if_pos a1]; exact ⟨rfl, hS, ShF.rf⟩
  · rw [if_neg a1]
    by_cases a2 : o < 0
    · rw [if_pos a2]; exact ⟨rfl, hS, ShF.rf⟩
    · rw [if_neg a2, if_pos ((h.resolve_left a2).resolve_left a1)]; exact ⟨rfl, hS, ShF.rf⟩
abbrev rm_yX8_copy : Room := { frames := 1, cells := 0, slots := 0, locals := 22 }
set_option maxHeartbeats 800000 in
set_option maxRecDepth 100000 in
theorem kX8_copy {l : Launch} {D : va_G} {cA : ClassId} {ad : Nat → Nat} {ρ T σ : Nat → Nat → Int32} {sz : Nat} {χ : Nat → Nat → Int32} {z i0 y o0 k0 : Int32} (hS : ShE χ σ) (hO : okS χ) : MMi l yX8_copy cX8_copy 10 FieldType.int rm_yX8_copy [.ref (ad 0), .int z, .int i0, .int y, .int o0, .int k0] D cA ad ρ T σ sz (fun (r : Int32) (u : Nat → Nat → Int32) => r = (copyP χ z i0 y o0 k0).1 ∧ ShE (copyP χ z i0 y o0 k0).2 u ∧ ShF σ u) (fun u : Nat → Nat → Int32 => ment ad cA ρ T u) := by
  refine gw_stI (Ff := fun u : Nat → Nat → Int32 => ment ad cA ρ T u) (own := RX8) (by decide +kernel) rfl (Nat.le_of_ble_eq_true rfl) ?_
  intro p e s m ar below meth c A Q F hE hsz hW hret ls hl
  obtain ⟨hx, hb, hml, hown, hts⟩ := id F
  have hl : lv_has ls 10 [(0, .ref (ad 0)), (1, .int z), (2, .int i0), (3, .int y), (4, .int o0), (5, .int k0)] := hl
  refine lv_iload_n hx hb dX8_copy_0 rfl (lv_at hl 1 rfl) ?_
  refine lv_iconst (v := 0) hx hb dX8_copy_1 (by decide) ?_
  refine lv_iconst (v := 3) hx hb dX8_copy_2 (by decide) ?_
  refine gw_callP (As := [.int z, .int 0, .int 3]) (rest := []) F hl.1 (kX8_in) pd_yX8_in ml_RX8_72 st_yX8_in ini_RX8 cd_yX8_in ⟨rfl, rfl⟩ ⟨Nat.le_of_ble_eq_true rfl, Nat.le_of_ble_eq_true rfl⟩ rfl rfl (Nat.le_of_ble_eq_true rfl) ⟨Nat.zero_le _, Nat.zero_le _⟩ dX8_copy_3 ?_
  refine lv_as (z := inP z 0 3) rfl ?_
  refine lv_if_eq (tgt := 18) hx hb dX8_copy_6 (by decide) (fun c_1 => ?_) (fun c_1 => ?_)
  ·
    refine lv_bipush (v := (-2)) hx hb dX8_copy_18 (by decide) ?_
    exact hret (-2) σ _ _ _ _ _ hW rfl rfl (by unfold copyP; rw [if_pos (by rw [sh_in]; exact c_1)]; exact ⟨rfl, hS, ShF.rf⟩) dX8_copy_20
  ·
    have c6n := c_1; obtain ⟨j1, hj1, rfl⟩ := sh_natM c_1; have hij1 : iN (nI j1) = j1 := iN_nI (by omega); have hsj1 := hS j1 hj1
    refine lv_iload_n hx hb dX8_copy_9 rfl (lv_at hl 3 rfl) ?_
    refine lv_iconst (v := 0) hx hb dX8_copy_10 (by decide) ?_
    refine lv_iconst (v := 3) hx hb dX8_copy_11 (by decide) ?_
    refine gw_callP (As := [.int y, .int 0, .int 3]) (rest := []) F hl.1 (kX8_in) pd_yX8_in ml_RX8_72 st_yX8_in ini_RX8 cd_yX8_in ⟨rfl, rfl⟩ ⟨Nat.le_of_ble_eq_true rfl, Nat.le_of_ble_eq_true rfl⟩ rfl rfl (Nat.le_of_ble_eq_true rfl) ⟨Nat.zero_le _, Nat.zero_le _⟩ dX8_copy_12 ?_
    refine lv_as (z := inP y 0 3) rfl ?_
    refine lv_if_ne (tgt := 21) hx hb dX8_copy_15 (by decide) (fun c_2 => ?_) (fun c_2 => ?_)
    ·
      have c15n := c_2; obtain ⟨j2, hj2, rfl⟩ := sh_natM c_2; have hij2 : iN (nI j2) = j2 := iN_nI (by omega); have hsj2 := hS j2 hj2
      refine lv_aload_n hx hb dX8_copy_21 rfl (lv_at hl 0 rfl) ?_
      refine mr_f F hW 14 (by decide) rfl fl_RX8_34 dX8_copy_22 ?_
      refine lv_iload_n hx hb dX8_copy_25 rfl (lv_at hl 1 rfl) ?_
      refine mr_sheetSort F hW (vp_in_nI hj1 (by decide)) dX8_copy_26 ?_
      refine lv_as (z := σ 9 j1) (by rw [nI_clamp (show j1 < 2 ^ 31 by omega)]) ?_
      refine lv_iconst (v := (-1)) hx hb dX8_copy_27 (by decide) ?_
      refine lv_icmp_eq (tgt := 41) hx hb dX8_copy_28 (by decide) (fun c_3 => ?_) (fun c_3 => ?_)
      ·
        refine lv_bipush (v := (-11)) hx hb dX8_copy_41 (by decide) ?_
        exact hret (-11) σ _ _ _ _ _ hW rfl rfl (by unfold copyP; rw [if_neg (by rw [sh_in]; exact c6n), if_neg (by rw [sh_in]; exact c15n), hij1, hij2, if_pos (hsj1.1.trans c_3)]; exact ⟨rfl, hS, ShF.rf⟩) dX8_copy_43
      ·
        refine lv_aload_n hx hb dX8_copy_31 rfl (lv_at hl 0 rfl) ?_
        refine mr_f F hW 14 (by decide) rfl fl_RX8_34 dX8_copy_32 ?_
        refine lv_iload_n hx hb dX8_copy_35 rfl (lv_at hl 3 rfl) ?_
        refine mr_sheetSort F hW (vp_in_nI hj2 (by decide)) dX8_copy_36 ?_
        refine lv_as (z := σ 9 j2) (by rw [nI_clamp (show j2 < 2 ^ 31 by omega)]) ?_
        refine lv_iconst (v := (-1)) hx hb dX8_copy_37 (by decide) ?_
        refine lv_icmp_ne (tgt := 44) hx hb dX8_copy_38 (by decide) (fun c_4 => ?_) (fun c_4 => ?_)
        ·
          refine lv_aload_n hx hb dX8_copy_44 rfl (lv_at hl 0 rfl) ?_
          refine mr_f F hW 14 (by decide) rfl fl_RX8_34 dX8_copy_45 ?_
          refine lv_iload_n hx hb dX8_copy_48 rfl (lv_at hl 1 rfl) ?_
          refine mr_sheetSort F hW (vp_in_nI (by omega) (by decide)) dX8_copy_49 ?_
          refine lv_as (z := σ 9 j1) (by rw [nI_clamp (show j1 < 2 ^ 31 by omega)]) ?_
          refine lv_aload_n hx hb dX8_copy_50 rfl (lv_at hl 0 rfl) ?_
          refine mr_f F hW 14 (by decide) rfl fl_RX8_34 dX8_copy_51 ?_
          refine lv_iload_n hx hb dX8_copy_54 rfl (lv_at hl 3 rfl) ?_
          refine mr_sheetSort F hW (vp_in_nI hj2 (by decide)) dX8_copy_55 ?_
          refine lv_as (z := σ 9 j2) (by rw [nI_clamp (show j2 < 2 ^ 31 by omega)]) ?_
          refine lv_icmp_eq (tgt := 62) hx hb dX8_copy_56 (by decide) (fun c_5 => ?_) (fun c_5 => ?_)
          ·
            refine lv_iload hx hb dX8_copy_62 (lv_at hl 5 rfl) ?_
            refine lv_if_lt (tgt := 124) hx hb dX8_copy_64 (by decide) (fun c_6 => ?_) (fun c_6 => ?_)
            ·
              refine lv_bipush (v := (-12)) hx hb dX8_copy_124 (by decide) ?_
              exact hret (-12) σ _ _ _ _ _ hW rfl rfl (by unfold copyP; rw [if_neg (by rw [sh_in]; exact c6n), if_neg (by rw [sh_in]; exact c15n), hij1, hij2, if_neg (fun e => c_3 (hsj1.1.symm.trans e)), if_neg (fun e => c_4 (hsj2.1.symm.trans e)), if_pos (hsj1.1.trans ((c_5).trans hsj2.1.symm)), if_pos c_6]; exact ⟨rfl, hS, ShF.rf⟩) dX8_copy_126
            ·
              have c64n := c_6; obtain ⟨mm, hmm, rfl⟩ := nI_of c_6
              refine lv_iload_n hx hb dX8_copy_67 rfl (lv_at hl 2 rfl) ?_
              refine lv_if_lt (tgt := 124) hx hb dX8_copy_68 (by decide) (fun c_7 => ?_) (fun c_7 => ?_)
              ·
                refine lv_bipush (v := (-12)) hx hb dX8_copy_124 (by decide) ?_
                exact hret (-12) σ _ _ _ _ _ hW rfl rfl (by unfold copyP; rw [if_neg (by rw [sh_in]; exact c6n), if_neg (by rw [sh_in]; exact c15n), hij1, hij2, if_neg (fun e => c_3 (hsj1.1.symm.trans e)), if_neg (fun e => c_4 (hsj2.1.symm.trans e)), if_pos (hsj1.1.trans ((c_5).trans hsj2.1.symm)), if_neg c64n, if_pos c_7]; exact ⟨rfl, hS, ShF.rf⟩) dX8_copy_126
              ·
                have c68n := c_7; obtain ⟨ia, hia, rfl⟩ := nI_of c_7
                refine lv_iload hx hb dX8_copy_71 (lv_at hl 4 rfl) ?_
                refine lv_if_lt (tgt := 124) hx hb dX8_copy_73 (by decide) (fun c_8 => ?_) (fun c_8 => ?_)
                ·
                  refine lv_bipush (v := (-12)) hx hb dX8_copy_124 (by decide) ?_
                  exact hret (-12) σ _ _ _ _ _ hW rfl rfl (copy_no hS c6n c15n hij1 hij2 (fun e => c_3 (hsj1.1.symm.trans e)) (fun e => c_4 (hsj2.1.symm.trans e)) (hsj1.1.trans ((c_5).trans hsj2.1.symm)) c64n c68n (Or.inl c_8)) dX8_copy_126
                ·
                  have c73n := c_8; obtain ⟨jb, hjb, rfl⟩ := nI_of c_8
                  obtain ⟨k1, hk1, hk1e⟩ := hO j1 hj1; obtain ⟨k2, hk2, hk2e⟩ := hO j2 hj2
                  refine lv_iload_n hx hb dX8_copy_76 rfl (lv_at hl 2 rfl) ?_
                  refine lv_aload_n hx hb dX8_copy_77 rfl (lv_at hl 0 rfl) ?_
                  refine mr_f F hW 15 (by decide) rfl fl_RX8_37 dX8_copy_78 ?_
                  refine lv_iload_n hx hb dX8_copy_81 rfl (lv_at hl 1 rfl) ?_
                  refine mr_sheetSize F hW (vp_in_nI hj1 (by decide)) dX8_copy_82 ?_
                  refine lv_as (z := σ 10 j1) (by rw [nI_clamp (show j1 < 2 ^ 31 by omega)]) ?_
                  refine lv_as (z := nI k1) (by rw [← hsj1.2.1]; exact hk1e) ?_
                  refine lv_icmp_gt (tgt := 124) hx hb dX8_copy_83 (by decide) (fun c_9 => ?_) (fun c_9 => ?_)
                  ·
                    have hbad : k1 < ia + mm := (by have := mi_lt (a := k1) (b := ia) c_9 (by omega) hia; omega)
                    refine lv_bipush (v := (-12)) hx hb dX8_copy_124 (by decide) ?_
                    exact hret (-12) σ _ _ _ _ _ hW rfl rfl (by refine copy_no hS c6n c15n hij1 hij2 (fun e => c_3 (hsj1.1.symm.trans e)) (fun e => c_4 (hsj2.1.symm.trans e)) (hsj1.1.trans ((c_5).trans hsj2.1.symm)) c64n c68n (Or.inr (Or.inl ?_)); rw [show siX χ j1 = nI k1 from hk1e, cp_toI hk1 hmm hia]; exact hbad) dX8_copy_126
                  ·
                    have hia1 : ia ≤ k1 := mi_nlt c_9 (by omega) hia
                    refine lv_iload hx hb dX8_copy_86 (lv_at hl 4 rfl) ?_
                    refine lv_aload_n hx hb dX8_copy_88 rfl (lv_at hl 0 rfl) ?_
                    refine mr_f F hW 15 (by decide) rfl fl_RX8_37 dX8_copy_89 ?_
                    refine lv_iload_n hx hb dX8_copy_92 rfl (lv_at hl 3 rfl) ?_
                    refine mr_sheetSize F hW (vp_in_nI hj2 (by decide)) dX8_copy_93 ?_
                    refine lv_as (z := σ 10 j2) (by rw [nI_clamp (show j2 < 2 ^ 31 by omega)]) ?_
                    refine lv_as (z := nI k2) (by rw [← hsj2.2.1]; exact hk2e) ?_
                    refine lv_icmp_gt (tgt := 124) hx hb dX8_copy_94 (by decide) (fun c_10 => ?_) (fun c_10 => ?_)
                    ·
                      have hbad : k2 < jb + mm := (by have := mi_lt (a := k2) (b := jb) c_10 (by omega) hjb; omega)
                      refine lv_bipush (v := (-12)) hx hb dX8_copy_124 (by decide) ?_
                      exact hret (-12) σ _ _ _ _ _ hW rfl rfl (by refine copy_no hS c6n c15n hij1 hij2 (fun e => c_3 (hsj1.1.symm.trans e)) (fun e => c_4 (hsj2.1.symm.trans e)) (hsj1.1.trans ((c_5).trans hsj2.1.symm)) c64n c68n (Or.inr (Or.inr ?_)); rw [show siX χ j2 = nI k2 from hk2e, cp_toI hk2 hmm hjb]; exact hbad) dX8_copy_126
                    ·
                      have hjb1 : jb ≤ k2 := mi_nlt c_10 (by omega) hjb
                      refine lv_iload hx hb dX8_copy_97 (lv_at hl 5 rfl) ?_
                      refine lv_aload_n hx hb dX8_copy_99 rfl (lv_at hl 0 rfl) ?_
                      refine mr_f F hW 15 (by decide) rfl fl_RX8_37 dX8_copy_100 ?_
                      refine lv_iload_n hx hb dX8_copy_103 rfl (lv_at hl 1 rfl) ?_
                      refine mr_sheetSize F hW (vp_in_nI hj1 (by decide)) dX8_copy_104 ?_
                      refine lv_as (z := σ 10 j1) (by rw [nI_clamp (show j1 < 2 ^ 31 by omega)]) ?_
                      refine lv_as (z := nI k1) (by rw [← hsj1.2.1]; exact hk1e) ?_
                      refine lv_iload_n hx hb dX8_copy_105 rfl (lv_at hl 2 rfl) ?_
                      refine lv_isub hx hb dX8_copy_106 ?_
                      refine lv_as (z := nI (k1 - ia)) (sub_nI hia1) ?_
                      refine lv_icmp_gt (tgt := 124) hx hb dX8_copy_107 (by decide) (fun c_11 => ?_) (fun c_11 => ?_)
                      ·
                        have hbad : k1 < ia + mm := (by have := mi_lt (a := k1 - ia) (b := mm) c_11 (by omega) hmm; omega)
                        refine lv_bipush (v := (-12)) hx hb dX8_copy_124 (by decide) ?_
                        exact hret (-12) σ _ _ _ _ _ hW rfl rfl (by refine copy_no hS c6n c15n hij1 hij2 (fun e => c_3 (hsj1.1.symm.trans e)) (fun e => c_4 (hsj2.1.symm.trans e)) (hsj1.1.trans ((c_5).trans hsj2.1.symm)) c64n c68n (Or.inr (Or.inl ?_)); rw [show siX χ j1 = nI k1 from hk1e, cp_toI hk1 hmm hia]; exact hbad) dX8_copy_126
                      ·
                        have hm1 : mm ≤ k1 - ia := mi_nlt c_11 (by omega) hmm
                        refine lv_iload hx hb dX8_copy_110 (lv_at hl 5 rfl) ?_
                        refine lv_aload_n hx hb dX8_copy_112 rfl (lv_at hl 0 rfl) ?_
                        refine mr_f F hW 15 (by decide) rfl fl_RX8_37 dX8_copy_113 ?_
                        refine lv_iload_n hx hb dX8_copy_116 rfl (lv_at hl 3 rfl) ?_
                        refine mr_sheetSize F hW (vp_in_nI hj2 (by decide)) dX8_copy_117 ?_
                        refine lv_as (z := σ 10 j2) (by rw [nI_clamp (show j2 < 2 ^ 31 by omega)]) ?_
                        refine lv_as (z := nI k2) (by rw [← hsj2.2.1]; exact hk2e) ?_
                        refine lv_iload hx hb dX8_copy_118 (lv_at hl 4 rfl) ?_
                        refine lv_isub hx hb dX8_copy_120 ?_
                        refine lv_as (z := nI (k2 - jb)) (sub_nI hjb1) ?_
                        refine lv_icmp_le (tgt := 127) hx hb dX8_copy_121 (by decide) (fun c_12 => ?_) (fun c_12 => ?_)
                        ·
                          have hm2 : mm ≤ k2 - jb := mi_le c_12 hmm (by omega); have hA1 : ¬ siX χ j1 - nI mm < nI ia := (by rw [show siX χ j1 = nI k1 from hk1e, cp_toI hk1 hmm hia]; omega); have hA2 : ¬ siX χ j2 - nI mm < nI jb := (by rw [show siX χ j2 = nI k2 from hk2e, cp_toI hk2 hmm hjb]; omega)
                          refine lv_bipush (v := 40) hx hb dX8_copy_127 (by decide) ?_
                          refine lv_iload_n hx hb dX8_copy_129 rfl (lv_at hl 1 rfl) ?_
                          refine lv_imul hx hb dX8_copy_130 ?_
                          refine lv_as (z := nI (40 * j1)) (c40 _) ?_
                          refine lv_iload_n hx hb dX8_copy_131 rfl (lv_at hl 2 rfl) ?_
                          refine lv_iadd hx hb dX8_copy_132 ?_
                          refine lv_as (z := nI (40 * j1 + ia)) (nI_add _ _) ?_
                          refine lv_istore (lv' := [(6, .int (nI (40 * j1 + ia))), (0, .ref (ad 0)), (1, .int (nI j1)), (2, .int (nI ia)), (3, .int (nI j2)), (4, .int (nI jb)), (5, .int (nI mm))]) hx hb dX8_copy_133 hl (by decide) rfl (fun ls hl => ?_)
                          refine lv_bipush (v := 40) hx hb dX8_copy_135 (by decide) ?_
                          refine lv_iload_n hx hb dX8_copy_137 rfl (lv_at hl 4 rfl) ?_
                          refine lv_imul hx hb dX8_copy_138 ?_
                          refine lv_as (z := nI (40 * j2)) (c40 _) ?_
                          refine lv_iload hx hb dX8_copy_139 (lv_at hl 5 rfl) ?_
                          refine lv_iadd hx hb dX8_copy_141 ?_
                          refine lv_as (z := nI (40 * j2 + jb)) (nI_add _ _) ?_
                          refine lv_istore (lv' := [(7, .int (nI (40 * j2 + jb))), (6, .int (nI (40 * j1 + ia))), (0, .ref (ad 0)), (1, .int (nI j1)), (2, .int (nI ia)), (3, .int (nI j2)), (4, .int (nI jb)), (5, .int (nI mm))]) hx hb dX8_copy_142 hl (by decide) rfl (fun ls hl => ?_)
                          refine lv_iconst (v := 0) hx hb dX8_copy_144 (by decide) ?_
                          refine lv_istore (lv' := [(8, .int 0), (7, .int (nI (40 * j2 + jb))), (6, .int (nI (40 * j1 + ia))), (0, .ref (ad 0)), (1, .int (nI j1)), (2, .int (nI ia)), (3, .int (nI j2)), (4, .int (nI jb)), (5, .int (nI mm))]) hx hb dX8_copy_145 hl (by decide) rfl (fun ls hl => ?_)
                          have L147 : ∀ (k : Nat) (i : Nat) (σ' : Nat → Nat → Int32), (i ≤ mm) → (mm + 1 ≤ i + k) → (cpR σ (40 * j1 + ia) (40 * j2 + jb) mm i σ') → ∀ (H : Heap) (locs : List Loc) (ls : Array Slot), MW D cA ad ρ T σ' A s s.heap H locs → lv_has ls 10 [(8, .int (nI i)), (0, .ref (ad 0)), (5, .int (nI mm)), (6, .int (nI (40 * j1 + ia))), (7, .int (nI (40 * j2 + jb)))] → W p l e rm_yX8_copy s m ar below meth c H locs 0 0 Q (F0 m 147 ls []) := by
                            intro k
                            induction k with
                            | zero => intro i σ' h1 h2 hR; exact absurd h2 (by omega)
                            | succ k ih147 =>
                              intro i σ' h1 h2 hR H locs ls hW hl
                              refine lv_iload hx hb dX8_copy_147 (lv_at hl 0 rfl) ?_
                              refine lv_iload hx hb dX8_copy_149 (lv_at hl 2 rfl) ?_
                              refine lv_icmp_ge (tgt := 201) hx hb dX8_copy_151 (by decide) (fun c_13 => ?_) (fun c_13 => ?_)
                              ·
                                obtain rfl : mm = i := by have := mi_le (a := mm) (b := i) c_13 (by omega) (by omega); omega
                                refine lv_iload hx hb dX8_copy_201 (lv_at hl 2 rfl) ?_
                                exact hret (nI mm) σ' _ _ _ _ _ hW rfl rfl (by unfold copyP; rw [if_neg (by rw [sh_in]; exact c6n), if_neg (by rw [sh_in]; exact c15n), hij1, hij2, if_neg (fun e => c_3 (hsj1.1.symm.trans e)), if_neg (fun e => c_4 (hsj2.1.symm.trans e)), if_pos (hsj1.1.trans ((c_5).trans hsj2.1.symm)), if_neg c64n, if_neg c68n, if_neg hA1, if_neg c73n, if_neg hA2]; obtain ⟨hE1, hE2⟩ := cp_E hS hj1 hj2 (by omega) (by omega) hR; exact ⟨rfl, hE1, hE2⟩) dX8_copy_203
                              ·
                                have hlt : i < mm := mi_nle (a := mm) (b := i) c_13 (by omega) (by omega)
                                refine lv_iload hx hb dX8_copy_154 (lv_at hl 3 rfl) ?_
                                refine lv_iload hx hb dX8_copy_156 (lv_at hl 4 rfl) ?_
                                refine lv_icmp_ge (tgt := 171) hx hb dX8_copy_158 (by decide) (fun c_14 => ?_) (fun c_14 => ?_)
                                ·
                                  have hge : 40 * j2 + jb ≤ 40 * j1 + ia := mi_le c_14 (by omega) (by omega)
                                  refine lv_iload hx hb dX8_copy_171 (lv_at hl 0 rfl) ?_
                                  refine lv_istore (lv' := [(9, .int (nI i)), (8, .int (nI i)), (0, .ref (ad 0)), (5, .int (nI mm)), (6, .int (nI (40 * j1 + ia))), (7, .int (nI (40 * j2 + jb)))]) hx hb dX8_copy_173 hl (by decide) rfl (fun ls hl => ?_)
                                  refine lv_aload_n hx hb dX8_copy_175 rfl (lv_at hl 2 rfl) ?_
                                  refine mr_f F hW 16 (by decide) rfl fl_RX8_40 dX8_copy_176 ?_
                                  refine lv_iload hx hb dX8_copy_179 (lv_at hl 5 rfl) ?_
                                  refine lv_iload hx hb dX8_copy_181 (lv_at hl 0 rfl) ?_
                                  refine lv_iadd hx hb dX8_copy_183 ?_
                                  refine lv_as (z := nI (40 * j2 + jb + i)) (nI_add _ _) ?_
                                  refine lv_aload_n hx hb dX8_copy_184 rfl (lv_at hl 2 rfl) ?_
                                  refine mr_f F hW 16 (by decide) rfl fl_RX8_40 dX8_copy_185 ?_
                                  refine lv_iload hx hb dX8_copy_188 (lv_at hl 4 rfl) ?_
                                  refine lv_iload hx hb dX8_copy_190 (lv_at hl 0 rfl) ?_
                                  refine lv_iadd hx hb dX8_copy_192 ?_
                                  refine lv_as (z := nI (40 * j1 + ia + i)) (nI_add _ _) ?_
                                  refine mr_cells F hW (vp_in_nI (by omega) (by decide)) dX8_copy_193 ?_
                                  refine lv_as (z := σ' 11 (40 * j1 + ia + i)) (by rw [nI_clamp (show (40 * j1 + ia + i) < 2 ^ 31 by omega)]) ?_
                                  refine mw_cells F hW (vp_in_nI (by omega) (by decide)) dX8_copy_194 (fun H locs hW => ?_)
                                  have hW : MW D cA ad ρ T (upR σ' 11 (40 * j2 + jb + i) (σ' 11 (40 * j1 + ia + i))) A s s.heap H locs := by rw [nI_clamp (show (40 * j2 + jb + i) < 2 ^ 31 by omega)] at hW; exact hW
                                  refine lv_iinc (v := nI (i + 1)) (lv' := [(8, .int (nI (i + 1))), (9, .int (nI i)), (0, .ref (ad 0)), (5, .int (nI mm)), (6, .int (nI (40 * j1 + ia))), (7, .int (nI (40 * j2 + jb)))]) hx hb dX8_copy_195 hl (k := 1) rfl (nI_1 i) (by decide) rfl (fun ls hl => ?_)
                                  refine lv_goto (tgt := 147) hx hb dX8_copy_198 (by decide) ?_
                                  exact ih147 (i + 1) (upR σ' 11 (40 * j2 + jb + i) (σ' 11 (40 * j1 + ia + i))) (by omega) (by omega) (cpR_s hR hlt (Or.inr ⟨hge, rfl⟩)) _ _ _ hW (lv_sub hl [0, 2, 3, 4, 5] rfl)
                                ·
                                  have hlt2 : 40 * j1 + ia < 40 * j2 + jb := mi_nle c_14 (by omega) (by omega)
                                  refine lv_iload hx hb dX8_copy_161 (lv_at hl 2 rfl) ?_
                                  refine lv_iconst (v := 1) hx hb dX8_copy_163 (by decide) ?_
                                  refine lv_isub hx hb dX8_copy_164 ?_
                                  refine lv_as (z := nI (mm - 1)) (sub_nI (b := 1) (by omega)) ?_
                                  refine lv_iload hx hb dX8_copy_165 (lv_at hl 0 rfl) ?_
                                  refine lv_isub hx hb dX8_copy_167 ?_
                                  refine lv_as (z := nI (mm - 1 - i)) (sub_nI (by omega)) ?_
                                  refine lv_goto (tgt := 173) hx hb dX8_copy_168 (by decide) ?_
                                  refine lv_istore (lv' := [(9, .int (nI (mm - 1 - i))), (8, .int (nI i)), (0, .ref (ad 0)), (5, .int (nI mm)), (6, .int (nI (40 * j1 + ia))), (7, .int (nI (40 * j2 + jb)))]) hx hb dX8_copy_173 hl (by decide) rfl (fun ls hl => ?_)
                                  refine lv_aload_n hx hb dX8_copy_175 rfl (lv_at hl 2 rfl) ?_
                                  refine mr_f F hW 16 (by decide) rfl fl_RX8_40 dX8_copy_176 ?_
                                  refine lv_iload hx hb dX8_copy_179 (lv_at hl 5 rfl) ?_
                                  refine lv_iload hx hb dX8_copy_181 (lv_at hl 0 rfl) ?_
                                  refine lv_iadd hx hb dX8_copy_183 ?_
                                  refine lv_as (z := nI (40 * j2 + jb + (mm - 1 - i))) (nI_add _ _) ?_
                                  refine lv_aload_n hx hb dX8_copy_184 rfl (lv_at hl 2 rfl) ?_
                                  refine mr_f F hW 16 (by decide) rfl fl_RX8_40 dX8_copy_185 ?_
                                  refine lv_iload hx hb dX8_copy_188 (lv_at hl 4 rfl) ?_
                                  refine lv_iload hx hb dX8_copy_190 (lv_at hl 0 rfl) ?_
                                  refine lv_iadd hx hb dX8_copy_192 ?_
                                  refine lv_as (z := nI (40 * j1 + ia + (mm - 1 - i))) (nI_add _ _) ?_
                                  refine mr_cells F hW (vp_in_nI (by omega) (by decide)) dX8_copy_193 ?_
                                  refine lv_as (z := σ' 11 (40 * j1 + ia + (mm - 1 - i))) (by rw [nI_clamp (show (40 * j1 + ia + (mm - 1 - i)) < 2 ^ 31 by omega)]) ?_
                                  refine mw_cells F hW (vp_in_nI (by omega) (by decide)) dX8_copy_194 (fun H locs hW => ?_)
                                  have hW : MW D cA ad ρ T (upR σ' 11 (40 * j2 + jb + (mm - 1 - i)) (σ' 11 (40 * j1 + ia + (mm - 1 - i)))) A s s.heap H locs := by rw [nI_clamp (show (40 * j2 + jb + (mm - 1 - i)) < 2 ^ 31 by omega)] at hW; exact hW
                                  refine lv_iinc (v := nI (i + 1)) (lv' := [(8, .int (nI (i + 1))), (9, .int (nI (mm - 1 - i))), (0, .ref (ad 0)), (5, .int (nI mm)), (6, .int (nI (40 * j1 + ia))), (7, .int (nI (40 * j2 + jb)))]) hx hb dX8_copy_195 hl (k := 1) rfl (nI_1 i) (by decide) rfl (fun ls hl => ?_)
                                  refine lv_goto (tgt := 147) hx hb dX8_copy_198 (by decide) ?_
                                  exact ih147 (i + 1) (upR σ' 11 (40 * j2 + jb + (mm - 1 - i)) (σ' 11 (40 * j1 + ia + (mm - 1 - i)))) (by omega) (by omega) (cpR_s hR hlt (Or.inl ⟨hlt2, rfl⟩)) _ _ _ hW (lv_sub hl [0, 2, 3, 4, 5] rfl)
                          exact L147 (mm + 1) 0 _ (Nat.zero_le _) (by omega) (cpR_0) _ _ _ hW (lv_sub hl [0, 3, 8, 2, 1] rfl)
                        ·
                          have hbad : k2 < jb + mm := (by have := mi_nle (a := mm) (b := k2 - jb) c_12 hmm (by omega); omega)
                          refine lv_bipush (v := (-12)) hx hb dX8_copy_124 (by decide) ?_
                          exact hret (-12) σ _ _ _ _ _ hW rfl rfl (by refine copy_no hS c6n c15n hij1 hij2 (fun e => c_3 (hsj1.1.symm.trans e)) (fun e => c_4 (hsj2.1.symm.trans e)) (hsj1.1.trans ((c_5).trans hsj2.1.symm)) c64n c68n (Or.inr (Or.inr ?_)); rw [show siX χ j2 = nI k2 from hk2e, cp_toI hk2 hmm hjb]; exact hbad) dX8_copy_126
          ·
            refine lv_bipush (v := (-13)) hx hb dX8_copy_59 (by decide) ?_
            exact hret (-13) σ _ _ _ _ _ hW rfl rfl (by unfold copyP; rw [if_neg (by rw [sh_in]; exact c6n), if_neg (by rw [sh_in]; exact c15n), hij1, hij2, if_neg (fun e => c_3 (hsj1.1.symm.trans e)), if_neg (fun e => c_4 (hsj2.1.symm.trans e)), if_neg (fun e => c_5 (hsj1.1.symm.trans (e.trans hsj2.1)))]; exact ⟨rfl, hS, ShF.rf⟩) dX8_copy_61
        ·
          refine lv_bipush (v := (-11)) hx hb dX8_copy_41 (by decide) ?_
          exact hret (-11) σ _ _ _ _ _ hW rfl rfl (by unfold copyP; rw [if_neg (by rw [sh_in]; exact c6n), if_neg (by rw [sh_in]; exact c15n), hij1, hij2, if_neg (fun e => c_3 (hsj1.1.symm.trans e)), if_pos (hsj2.1.trans c_4)]; exact ⟨rfl, hS, ShF.rf⟩) dX8_copy_43
    ·
      refine lv_bipush (v := (-2)) hx hb dX8_copy_18 (by decide) ?_
      exact hret (-2) σ _ _ _ _ _ hW rfl rfl (by unfold copyP; rw [if_neg (by rw [sh_in]; exact c6n), if_pos (by rw [sh_in]; exact c_2)]; exact ⟨rfl, hS, ShF.rf⟩) dX8_copy_20
theorem by_ovf {v : Int32} {i : Nat} (hi : i ≤ 6) (h : ¬ v < 0) : (v + 3 * nI i < v) = (v + 3 * nI i < 0) := by
  obtain ⟨b, hb, rfl⟩ := nI_of h
  rw [show (3 : Int32) = nI 3 from rfl, mul_nI]
  apply propext
  rw [Int32.lt_iff_toInt_lt, Int32.lt_iff_toInt_lt, Int32.toInt_add, nI_toInt hb, nI_toInt (show 3 * i < 2 ^ 31 by omega), show (0 : Int32).toInt = 0 from rfl]
  have hb2 : ∀ x : Int, Int.bmod x (2 ^ 32) = if x % 4294967296 < 2147483648 then x % 4294967296 else x % 4294967296 - 4294967296 := fun x => rfl
  rw [hb2, Int.emod_eq_of_lt (by omega) (by omega)]
  split <;> omega
abbrev rm_yX8_guestsBy : Room := { frames := 2, cells := 0, slots := 0, locals := 45 }
set_option maxHeartbeats 800000 in
set_option maxRecDepth 100000 in
theorem kX8_guestsBy {l : Launch} {D : va_G} {cA : ClassId} {ad : Nat → Nat} {ρ T σ : Nat → Nat → Int32} {sz : Nat} {χ : Nat → Nat → Int32} {n : Nat} {z w v0 q0 : Int32} (hT : okT n T) (hS : ShE χ σ) (hO : okS χ) : MMi l yX8_guestsBy cX8_guestsBy 9 FieldType.int rm_yX8_guestsBy [.ref (ad 0), .int z, .int w, .int v0, .int q0] D cA ad ρ T σ sz (fun (r : Int32) (u : Tb) => r = (byP (soX χ) (siX χ) (nuX χ) T z w v0 q0).1 ∧ u = (byP (soX χ) (siX χ) (nuX χ) T z w v0 q0).2) (fun u : Tb => ment ad cA ρ u σ) := by
  refine gw_stI (Ff := fun u : Tb => ment ad cA ρ u σ) (own := RX8) (by decide +kernel) rfl (Nat.le_of_ble_eq_true rfl) ?_
  intro p e s m ar below meth c A Q F hE hsz hW hret ls hl
  obtain ⟨hx, hb, hml, hown, hts⟩ := id F
  have hl : lv_has ls 9 [(0, .ref (ad 0)), (1, .int z), (2, .int w), (3, .int v0), (4, .int q0)] := hl
  refine lv_iload_n hx hb dX8_guestsBy_0 rfl (lv_at hl 1 rfl) ?_
  refine lv_iconst (v := 0) hx hb dX8_guestsBy_1 (by decide) ?_
  refine lv_iconst (v := 3) hx hb dX8_guestsBy_2 (by decide) ?_
  refine gw_callP (As := [.int z, .int 0, .int 3]) (rest := []) F hl.1 (kX8_in) pd_yX8_in ml_RX8_72 st_yX8_in ini_RX8 cd_yX8_in ⟨rfl, rfl⟩ ⟨Nat.le_of_ble_eq_true rfl, Nat.le_of_ble_eq_true rfl⟩ rfl rfl (Nat.le_of_ble_eq_true rfl) ⟨Nat.zero_le _, Nat.zero_le _⟩ dX8_guestsBy_3 ?_
  refine lv_as (z := inP z 0 3) rfl ?_
  refine lv_if_eq (tgt := 29) hx hb dX8_guestsBy_6 (by decide) (fun c_1 => ?_) (fun c_1 => ?_)
  ·
    refine lv_bipush (v := (-2)) hx hb dX8_guestsBy_29 (by decide) ?_
    exact hret (-2) T _ _ _ _ _ hW rfl rfl (by unfold byP; simp only [in_ite]; rw [if_pos (by rw [sh_in]; exact c_1)]; exact ⟨rfl, rfl⟩) dX8_guestsBy_31
  ·
    have c6n := c_1; obtain ⟨j, hj, rfl⟩ := sh_natM c_1; have hij : iN (nI j) = j := iN_nI (by omega); have hsj := hS j hj
    refine lv_iload_n hx hb dX8_guestsBy_9 rfl (lv_at hl 2 rfl) ?_
    refine lv_iconst (v := 0) hx hb dX8_guestsBy_10 (by decide) ?_
    refine lv_iconst (v := 2) hx hb dX8_guestsBy_11 (by decide) ?_
    refine gw_callP (As := [.int w, .int 0, .int 2]) (rest := []) F hl.1 (kX8_in) pd_yX8_in ml_RX8_72 st_yX8_in ini_RX8 cd_yX8_in ⟨rfl, rfl⟩ ⟨Nat.le_of_ble_eq_true rfl, Nat.le_of_ble_eq_true rfl⟩ rfl rfl (Nat.le_of_ble_eq_true rfl) ⟨Nat.zero_le _, Nat.zero_le _⟩ dX8_guestsBy_12 ?_
    refine lv_as (z := inP w 0 2) rfl ?_
    refine lv_if_eq (tgt := 29) hx hb dX8_guestsBy_15 (by decide) (fun c_2 => ?_) (fun c_2 => ?_)
    ·
      refine lv_bipush (v := (-2)) hx hb dX8_guestsBy_29 (by decide) ?_
      exact hret (-2) T _ _ _ _ _ hW rfl rfl (by unfold byP; simp only [in_ite]; rw [if_neg (by rw [sh_in]; exact c6n), if_pos c_2]; exact ⟨rfl, rfl⟩) dX8_guestsBy_31
    ·
      refine lv_iload hx hb dX8_guestsBy_18 (lv_at hl 4 rfl) ?_
      refine lv_iconst (v := 0) hx hb dX8_guestsBy_20 (by decide) ?_
      refine lv_bipush (v := 6) hx hb dX8_guestsBy_21 (by decide) ?_
      refine gw_callP (As := [.int q0, .int 0, .int 6]) (rest := []) F hl.1 (kX8_in) pd_yX8_in ml_RX8_72 st_yX8_in ini_RX8 cd_yX8_in ⟨rfl, rfl⟩ ⟨Nat.le_of_ble_eq_true rfl, Nat.le_of_ble_eq_true rfl⟩ rfl rfl (Nat.le_of_ble_eq_true rfl) ⟨Nat.zero_le _, Nat.zero_le _⟩ dX8_guestsBy_23 ?_
      refine lv_as (z := inP q0 0 6) rfl ?_
      refine lv_if_ne (tgt := 32) hx hb dX8_guestsBy_26 (by decide) (fun c_3 => ?_) (fun c_3 => ?_)
      ·
        have c26n := c_3; obtain ⟨mq, hmq, rfl⟩ := in_nat (k := 6) (by decide) c_3; have himq : iN (nI mq) = mq := iN_nI (by omega)
        refine lv_aload_n hx hb dX8_guestsBy_32 rfl (lv_at hl 0 rfl) ?_
        refine mr_f F hW 14 (by decide) rfl fl_RX8_34 dX8_guestsBy_33 ?_
        refine lv_iload_n hx hb dX8_guestsBy_36 rfl (lv_at hl 1 rfl) ?_
        refine mr_sheetSort F hW (vp_in_nI hj (by decide)) dX8_guestsBy_37 ?_
        refine lv_as (z := σ 9 j) (by rw [nI_clamp (show j < 2 ^ 31 by omega)]) ?_
        refine lv_iconst (v := (-1)) hx hb dX8_guestsBy_38 (by decide) ?_
        refine lv_icmp_ne (tgt := 45) hx hb dX8_guestsBy_39 (by decide) (fun c_4 => ?_) (fun c_4 => ?_)
        ·
          refine lv_aload_n hx hb dX8_guestsBy_45 rfl (lv_at hl 0 rfl) ?_
          refine mr_f F hW 14 (by decide) rfl fl_RX8_34 dX8_guestsBy_46 ?_
          refine lv_iload_n hx hb dX8_guestsBy_49 rfl (lv_at hl 1 rfl) ?_
          refine mr_sheetSort F hW (vp_in_nI hj (by decide)) dX8_guestsBy_50 ?_
          refine lv_as (z := σ 9 j) (by rw [nI_clamp (show j < 2 ^ 31 by omega)]) ?_
          refine lv_iload_n hx hb dX8_guestsBy_51 rfl (lv_at hl 2 rfl) ?_
          refine lv_icmp_eq (tgt := 58) hx hb dX8_guestsBy_52 (by decide) (fun c_5 => ?_) (fun c_5 => ?_)
          ·
            obtain ⟨kt, hkt, hkz⟩ := hO j hj
            refine lv_iconst (v := 0) hx hb dX8_guestsBy_58 (by decide) ?_
            refine lv_istore (lv' := [(5, .int 0), (0, .ref (ad 0)), (1, .int (nI j)), (2, .int w), (3, .int v0), (4, .int (nI mq))]) hx hb dX8_guestsBy_59 hl (by decide) rfl (fun ls hl => ?_)
            refine lv_iconst (v := 0) hx hb dX8_guestsBy_61 (by decide) ?_
            refine lv_istore (lv' := [(6, .int 0), (5, .int 0), (0, .ref (ad 0)), (1, .int (nI j)), (2, .int w), (3, .int v0), (4, .int (nI mq))]) hx hb dX8_guestsBy_62 hl (by decide) rfl (fun ls hl => ?_)
            generalize hR0 : byF (nuX χ j) (nI kt) v0 mq 0 0 T = RES
            have L64 : ∀ (k : Nat) (i f : Nat) (cc : Int32) (Y : Tb), (okT n Y) → (i + f = mq) → (mq + 1 ≤ i + k) → (1 ≤ i → ¬ v0 < 0) → (byF (nuX χ j) (nI kt) v0 f i cc Y = RES) → ∀ (H : Heap) (locs : List Loc) (ls : Array Slot), MW D cA ad ρ Y σ A s s.heap H locs → lv_has ls 9 [(6, .int (nI i)), (5, .int cc), (0, .ref (ad 0)), (1, .int (nI j)), (3, .int v0), (4, .int (nI mq))] → W p l e rm_yX8_guestsBy s m ar below meth c H locs 0 0 Q (F0 m 64 ls []) := by
              intro k
              induction k with
              | zero => intro i f cc Y hY h1 h2 hv hRR; exact absurd h2 (by omega)
              | succ k ih64 =>
                intro i f cc Y hY h1 h2 hv hRR H locs ls hW hl
                refine lv_iload hx hb dX8_guestsBy_64 (lv_at hl 0 rfl) ?_
                refine lv_iload hx hb dX8_guestsBy_66 (lv_at hl 5 rfl) ?_
                refine lv_icmp_ge (tgt := 162) hx hb dX8_guestsBy_68 (by decide) (fun c_6 => ?_) (fun c_6 => ?_)
                ·
                  obtain rfl : f = 0 := by have := mi_le (a := mq) (b := i) c_6 (by omega) (by omega); omega
                  refine lv_iload hx hb dX8_guestsBy_162 (lv_at hl 1 rfl) ?_
                  exact hret cc Y _ _ _ _ _ hW rfl rfl (by unfold byP; simp only [in_ite]; rw [if_neg (by rw [sh_in]; exact c6n), if_neg c_2, if_neg c26n, hij, if_neg (fun e => c_4 (hsj.1.symm.trans e)), if_pos (hsj.1.trans c_5), himq, show siX χ j = nI kt from hkz, hR0, ← hRR]; exact ⟨rfl, rfl⟩) dX8_guestsBy_164
                ·
                  have hlt : i < mq := mi_nle (a := mq) (b := i) c_6 (by omega) (by omega); obtain ⟨f', rfl⟩ : ∃ x, f = x + 1 := ⟨f - 1, by omega⟩
                  refine lv_iload_n hx hb dX8_guestsBy_71 rfl (lv_at hl 4 rfl) ?_
                  refine lv_iconst (v := 3) hx hb dX8_guestsBy_72 (by decide) ?_
                  refine lv_iload hx hb dX8_guestsBy_73 (lv_at hl 0 rfl) ?_
                  refine lv_imul hx hb dX8_guestsBy_75 ?_
                  refine lv_iadd hx hb dX8_guestsBy_76 ?_
                  refine lv_topi (fun v_7 ev_7 => ?_)
                  refine lv_istore (lv' := [(7, .int v_7), (6, .int (nI i)), (5, .int cc), (0, .ref (ad 0)), (1, .int (nI j)), (3, .int v0), (4, .int (nI mq))]) hx hb dX8_guestsBy_77 hl (by decide) rfl (fun ls hl => ?_)
                  refine lv_iload_n hx hb dX8_guestsBy_79 rfl (lv_at hl 5 rfl) ?_
                  refine lv_if_lt (tgt := 102) hx hb dX8_guestsBy_80 (by decide) (fun c_8 => ?_) (fun c_8 => ?_)
                  ·
                    have hi0 : i = 0 := (by rcases Nat.eq_zero_or_pos i with z | z; exact z; exact absurd c_8 (hv z)); have hneg : (v0 + 3 * nI i) < 0 := (by rw [hi0, show (3 : Int32) * nI 0 = 0 from rfl, Int32.add_zero]; exact c_8)
                    refine lv_bipush (v := (-12)) hx hb dX8_guestsBy_102 (by decide) ?_
                    exact hret (-12) Y _ _ _ _ _ hW rfl rfl (by unfold byP; simp only [in_ite]; rw [if_neg (by rw [sh_in]; exact c6n), if_neg c_2, if_neg c26n, hij, if_neg (fun e => c_4 (hsj.1.symm.trans e)), if_pos (hsj.1.trans c_5), himq, show siX χ j = nI kt from hkz, hR0, ← hRR]; rw [byF_neg hneg]; exact ⟨rfl, rfl⟩) dX8_guestsBy_104
                  ·
                    have hv0 : ¬ v0 < 0 := c_8
                    refine lv_iload hx hb dX8_guestsBy_83 (lv_at hl 0 rfl) ?_
                    refine lv_iload_n hx hb dX8_guestsBy_85 rfl (lv_at hl 5 rfl) ?_
                    refine lv_icmp_lt (tgt := 102) hx hb dX8_guestsBy_86 (by decide) (fun c_9 => ?_) (fun c_9 => ?_)
                    ·
                      have hneg : (v0 + 3 * nI i) < 0 := (by rw [← by_ovf (by omega) hv0, ← ev_7]; exact c_9)
                      refine lv_bipush (v := (-12)) hx hb dX8_guestsBy_102 (by decide) ?_
                      exact hret (-12) Y _ _ _ _ _ hW rfl rfl (by unfold byP; simp only [in_ite]; rw [if_neg (by rw [sh_in]; exact c6n), if_neg c_2, if_neg c26n, hij, if_neg (fun e => c_4 (hsj.1.symm.trans e)), if_pos (hsj.1.trans c_5), himq, show siX χ j = nI kt from hkz, hR0, ← hRR]; rw [byF_neg hneg]; exact ⟨rfl, rfl⟩) dX8_guestsBy_104
                    ·
                      have c83n : ¬ (v0 + 3 * nI i) < 0 := (by rw [← by_ovf (by omega) hv0, ← ev_7]; exact c_9)
                      refine lv_iload hx hb dX8_guestsBy_89 (lv_at hl 0 rfl) ?_
                      refine lv_aload_n hx hb dX8_guestsBy_91 rfl (lv_at hl 3 rfl) ?_
                      refine mr_f F hW 15 (by decide) rfl fl_RX8_37 dX8_guestsBy_92 ?_
                      refine lv_iload_n hx hb dX8_guestsBy_95 rfl (lv_at hl 4 rfl) ?_
                      refine mr_sheetSize F hW (vp_in_nI hj (by decide)) dX8_guestsBy_96 ?_
                      refine lv_as (z := σ 10 j) (by rw [nI_clamp (show j < 2 ^ 31 by omega)]) ?_
                      refine lv_as (z := nI kt) (by rw [← hsj.2.1]; exact hkz) ?_
                      refine lv_iconst (v := 3) hx hb dX8_guestsBy_97 (by decide) ?_
                      refine lv_isub hx hb dX8_guestsBy_98 ?_
                      refine lv_icmp_le (tgt := 105) hx hb dX8_guestsBy_99 (by decide) (fun c_10 => ?_) (fun c_10 => ?_)
                      ·
                        have c99n : ¬ nI kt - 3 < (v0 + 3 * nI i) := (by rw [← ev_7]; exact Int32.not_lt.mpr c_10); obtain ⟨t, ht, hat⟩ := by_at hkt c83n c99n; have hit : iN (nI t) = t := iN_nI (by omega); obtain rfl : v_7 = nI t := ev_7.trans hat
                        refine lv_bipush (v := 40) hx hb dX8_guestsBy_105 (by decide) ?_
                        refine lv_iload_n hx hb dX8_guestsBy_107 rfl (lv_at hl 4 rfl) ?_
                        refine lv_imul hx hb dX8_guestsBy_108 ?_
                        refine lv_as (z := nI (40 * j)) (c40 _) ?_
                        refine lv_iload hx hb dX8_guestsBy_109 (lv_at hl 0 rfl) ?_
                        refine lv_iadd hx hb dX8_guestsBy_111 ?_
                        refine lv_as (z := nI (40 * j + t)) (nI_add _ _) ?_
                        refine lv_istore (lv' := [(8, .int (nI (40 * j + t))), (7, .int (nI t)), (6, .int (nI i)), (5, .int cc), (0, .ref (ad 0)), (1, .int (nI j)), (3, .int v0), (4, .int (nI mq))]) hx hb dX8_guestsBy_112 hl (by decide) rfl (fun ls hl => ?_)
                        refine lv_iload hx hb dX8_guestsBy_114 (lv_at hl 3 rfl) ?_
                        refine lv_aload_n hx hb dX8_guestsBy_116 rfl (lv_at hl 4 rfl) ?_
                        refine lv_aload_n hx hb dX8_guestsBy_117 rfl (lv_at hl 4 rfl) ?_
                        refine mr_f F hW 16 (by decide) rfl fl_RX8_40 dX8_guestsBy_118 ?_
                        refine lv_iload hx hb dX8_guestsBy_121 (lv_at hl 0 rfl) ?_
                        refine mr_cells F hW (vp_in_nI (by omega) (by decide)) dX8_guestsBy_123 ?_
                        refine lv_as (z := σ 11 (40 * j + t)) (by rw [nI_clamp (show (40 * j + t) < 2 ^ 31 by omega)]) ?_
                        refine lv_as (z := nuX χ j t) ((hsj.2.2 (t) (by omega)).symm) ?_
                        refine lv_aload_n hx hb dX8_guestsBy_124 rfl (lv_at hl 4 rfl) ?_
                        refine mr_f F hW 16 (by decide) rfl fl_RX8_40 dX8_guestsBy_125 ?_
                        refine lv_iload hx hb dX8_guestsBy_128 (lv_at hl 0 rfl) ?_
                        refine lv_iconst (v := 1) hx hb dX8_guestsBy_130 (by decide) ?_
                        refine lv_iadd hx hb dX8_guestsBy_131 ?_
                        refine lv_as (z := nI (40 * j + t + 1)) (nI_add _ _) ?_
                        refine mr_cells F hW (vp_in_nI (by omega) (by decide)) dX8_guestsBy_132 ?_
                        refine lv_as (z := σ 11 (40 * j + t + 1)) (by rw [nI_clamp (show (40 * j + t + 1) < 2 ^ 31 by omega)]) ?_
                        refine lv_as (z := nuX χ j (t + 1)) ((hsj.2.2 (t + 1) (by omega)).symm) ?_
                        refine lv_aload_n hx hb dX8_guestsBy_133 rfl (lv_at hl 4 rfl) ?_
                        refine mr_f F hW 16 (by decide) rfl fl_RX8_40 dX8_guestsBy_134 ?_
                        refine lv_iload hx hb dX8_guestsBy_137 (lv_at hl 0 rfl) ?_
                        refine lv_iconst (v := 2) hx hb dX8_guestsBy_139 (by decide) ?_
                        refine lv_iadd hx hb dX8_guestsBy_140 ?_
                        refine lv_as (z := nI (40 * j + t + 2)) (nI_add _ _) ?_
                        refine mr_cells F hW (vp_in_nI (by omega) (by decide)) dX8_guestsBy_141 ?_
                        refine lv_as (z := σ 11 (40 * j + t + 2)) (by rw [nI_clamp (show (40 * j + t + 2) < 2 ^ 31 by omega)]) ?_
                        refine lv_as (z := nuX χ j (t + 2)) ((hsj.2.2 (t + 2) (by omega)).symm) ?_
                        refine gw_callVi (As := [.int (nuX χ j t), .int (nuX χ j (t + 1)), .int (nuX χ j (t + 2))]) (rest := [.int cc]) F hl.1 hW (fun _ _ _ => trivial) gw_T_E (by decide) (rfl : ment ad cA _ _ _ 0 = _) rfl (kX8_guest (n := n) hY) pd_yX8_guest ml_RX8_241 im_yX8_guest se_yX8_guest ini_RX8 cd_yX8_guest ⟨rfl, rfl⟩ ⟨Nat.le_of_ble_eq_true rfl, Nat.le_of_ble_eq_true rfl⟩ rfl rfl (Nat.le_of_ble_eq_true rfl) ⟨Nat.zero_le _, Nat.zero_le _⟩ dX8_guestsBy_142 (fun r T_11 H locs hp hW _ _ => ?_)
                        obtain ⟨hr_, hp⟩ := hp
                        subst hr_
                        have hp : T_11 = (guestP Y (nuX χ j t) (nuX χ j (t + 1)) (nuX χ j (t + 2))).2 := hp
                        subst hp
                        refine lv_as (z := (guestP Y (nuX χ j t) (nuX χ j (t + 1)) (nuX χ j (t + 2))).1) rfl ?_
                        refine lv_if_lt (tgt := 152) hx hb dX8_guestsBy_145 (by decide) (fun c_12 => ?_) (fun c_12 => ?_)
                        ·
                          refine lv_iconst (v := 0) hx hb dX8_guestsBy_152 (by decide) ?_
                          refine lv_iadd hx hb dX8_guestsBy_153 ?_
                          refine lv_istore (lv' := [(5, .int (cc + 0)), (8, .int (nI (40 * j + t))), (7, .int (nI t)), (6, .int (nI i)), (0, .ref (ad 0)), (1, .int (nI j)), (3, .int v0), (4, .int (nI mq))]) hx hb dX8_guestsBy_154 hl (by decide) rfl (fun ls hl => ?_)
                          refine lv_iinc (v := nI (i + 1)) (lv' := [(6, .int (nI (i + 1))), (5, .int (cc + 0)), (8, .int (nI (40 * j + t))), (7, .int (nI t)), (0, .ref (ad 0)), (1, .int (nI j)), (3, .int v0), (4, .int (nI mq))]) hx hb dX8_guestsBy_156 hl (k := 3) rfl (nI_1 i) (by decide) rfl (fun ls hl => ?_)
                          refine lv_goto (tgt := 64) hx hb dX8_guestsBy_159 (by decide) ?_
                          have hRR2 : byF (nuX χ j) (nI kt) v0 f' (i + 1) (cc + 0) (guestP Y (nuX χ j t) (nuX χ j (t + 1)) (nuX χ j (t + 2))).2 = RES := by rw [i32_add0]; rw [← hRR]; show _ = (if (v0 + 3 * nI i) < 0 then _ else if nI kt - 3 < (v0 + 3 * nI i) then _ else _); rw [if_neg c83n, if_neg c99n, hat, hit, if_pos c_12]
                          exact ih64 (i + 1) f' _ _ (guest_ok hY _ _ _) (by omega) (by omega) (fun _ => hv0) (hRR2) _ _ _ hW (lv_sub hl [0, 1, 4, 5, 6, 7] rfl)
                        ·
                          refine lv_iconst (v := 1) hx hb dX8_guestsBy_148 (by decide) ?_
                          refine lv_goto (tgt := 153) hx hb dX8_guestsBy_149 (by decide) ?_
                          refine lv_iadd hx hb dX8_guestsBy_153 ?_
                          refine lv_istore (lv' := [(5, .int (cc + 1)), (8, .int (nI (40 * j + t))), (7, .int (nI t)), (6, .int (nI i)), (0, .ref (ad 0)), (1, .int (nI j)), (3, .int v0), (4, .int (nI mq))]) hx hb dX8_guestsBy_154 hl (by decide) rfl (fun ls hl => ?_)
                          refine lv_iinc (v := nI (i + 1)) (lv' := [(6, .int (nI (i + 1))), (5, .int (cc + 1)), (8, .int (nI (40 * j + t))), (7, .int (nI t)), (0, .ref (ad 0)), (1, .int (nI j)), (3, .int v0), (4, .int (nI mq))]) hx hb dX8_guestsBy_156 hl (k := 3) rfl (nI_1 i) (by decide) rfl (fun ls hl => ?_)
                          refine lv_goto (tgt := 64) hx hb dX8_guestsBy_159 (by decide) ?_
                          have hRR2 : byF (nuX χ j) (nI kt) v0 f' (i + 1) (cc + 1) (guestP Y (nuX χ j t) (nuX χ j (t + 1)) (nuX χ j (t + 2))).2 = RES := by rw [← hRR]; show _ = (if (v0 + 3 * nI i) < 0 then _ else if nI kt - 3 < (v0 + 3 * nI i) then _ else _); rw [if_neg c83n, if_neg c99n, hat, hit, if_neg c_12]
                          exact ih64 (i + 1) f' _ _ (guest_ok hY _ _ _) (by omega) (by omega) (fun _ => hv0) (hRR2) _ _ _ hW (lv_sub hl [0, 1, 4, 5, 6, 7] rfl)
                      ·
                        refine lv_bipush (v := (-12)) hx hb dX8_guestsBy_102 (by decide) ?_
                        exact hret (-12) Y _ _ _ _ _ hW rfl rfl (by unfold byP; simp only [in_ite]; rw [if_neg (by rw [sh_in]; exact c6n), if_neg c_2, if_neg c26n, hij, if_neg (fun e => c_4 (hsj.1.symm.trans e)), if_pos (hsj.1.trans c_5), himq, show siX χ j = nI kt from hkz, hR0, ← hRR]; rw [byF_out c83n (by rw [← ev_7]; exact Int32.not_le.mp c_10)]; exact ⟨rfl, rfl⟩) dX8_guestsBy_104
            exact L64 (mq + 1) 0 mq 0 T (hT) (by omega) (by omega) (fun h => absurd h (by omega)) (hR0) _ _ _ hW (lv_sub hl [0, 1, 2, 3, 5, 6] rfl)
          ·
            refine lv_bipush (v := (-13)) hx hb dX8_guestsBy_55 (by decide) ?_
            exact hret (-13) T _ _ _ _ _ hW rfl rfl (by unfold byP; simp only [in_ite]; rw [if_neg (by rw [sh_in]; exact c6n), if_neg c_2, if_neg c26n, hij, if_neg (fun e => c_4 (hsj.1.symm.trans e)), if_neg (fun e => c_5 (hsj.1.symm.trans e))]; exact ⟨rfl, rfl⟩) dX8_guestsBy_57
        ·
          refine lv_bipush (v := (-11)) hx hb dX8_guestsBy_42 (by decide) ?_
          exact hret (-11) T _ _ _ _ _ hW rfl rfl (by unfold byP; simp only [in_ite]; rw [if_neg (by rw [sh_in]; exact c6n), if_neg c_2, if_neg c26n, hij, if_pos (hsj.1.trans c_4)]; exact ⟨rfl, rfl⟩) dX8_guestsBy_44
      ·
        refine lv_bipush (v := (-2)) hx hb dX8_guestsBy_29 (by decide) ?_
        exact hret (-2) T _ _ _ _ _ hW rfl rfl (by unfold byP; simp only [in_ite]; rw [if_neg (by rw [sh_in]; exact c6n), if_neg c_2, if_pos c_3]; exact ⟨rfl, rfl⟩) dX8_guestsBy_31
