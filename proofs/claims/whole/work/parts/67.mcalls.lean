/-! ===== the reference: calls over the table ===== -/
theorem l3 {x : Int32} : ((3 : Int32) ≤ x) = ((2 : Int32) < x) := propext (by rw [Int32.le_iff_toInt_le, Int32.lt_iff_toInt_lt]; show (3 : Int) ≤ _ ↔ (2 : Int) < _; omega)
theorem l10 {x : Int32} : ((10 : Int32) ≤ x) = ((9 : Int32) < x) := propext (by rw [Int32.le_iff_toInt_le, Int32.lt_iff_toInt_lt]; show (10 : Int) ≤ _ ↔ (9 : Int) < _; omega)
theorem l60 {x : Int32} : ((60 : Int32) ≤ x) = ((59 : Int32) < x) := propext (by rw [Int32.le_iff_toInt_le, Int32.lt_iff_toInt_lt]; show (60 : Int) ≤ _ ↔ (59 : Int) < _; omega)
theorem l6 {x : Int32} : ((6 : Int32) ≤ x) = ((5 : Int32) < x) := propext (by rw [Int32.le_iff_toInt_le, Int32.lt_iff_toInt_lt]; show (6 : Int) ≤ _ ↔ (5 : Int) < _; omega)
theorem l40 {x : Int32} : ((40 : Int32) ≤ x) = ((39 : Int32) < x) := propext (by rw [Int32.le_iff_toInt_le, Int32.lt_iff_toInt_lt]; show (40 : Int) ≤ _ ↔ (39 : Int) < _; omega)
theorem l100000 {x : Int32} : ((100000 : Int32) ≤ x) = ((99999 : Int32) < x) := propext (by rw [Int32.le_iff_toInt_le, Int32.lt_iff_toInt_lt]; show (100000 : Int) ≤ _ ↔ (99999 : Int) < _; omega)
theorem l4 {x : Int32} : ((4 : Int32) ≤ x) = ((3 : Int32) < x) := propext (by rw [Int32.le_iff_toInt_le, Int32.lt_iff_toInt_lt]; show (4 : Int) ≤ _ ↔ (3 : Int) < _; omega)
theorem l20 {x : Int32} : ((20 : Int32) ≤ x) = ((19 : Int32) < x) := propext (by rw [Int32.le_iff_toInt_le, Int32.lt_iff_toInt_lt]; show (20 : Int) ≤ _ ↔ (19 : Int) < _; omega)
theorem l12 {x : Int32} : ((12 : Int32) ≤ x) = ((11 : Int32) < x) := propext (by rw [Int32.le_iff_toInt_le, Int32.lt_iff_toInt_lt]; show (12 : Int) ≤ _ ↔ (11 : Int) < _; omega)
theorem inP_pred {k : Nat} (hk : k < 2 ^ 31) (p : Int32) : inP p 0 (nI k - 1) = if p < 0 then 0 else if nI k ≤ p then 0 else 1 := by
  unfold inP
  by_cases h0 : p < 0
  · rw [if_pos h0, if_pos h0]
  · rw [if_neg h0, if_neg h0]
    obtain ⟨j, hj, rfl⟩ := nI_of h0
    rcases Nat.eq_zero_or_pos k with e | e
    · rw [e, if_pos (Int32.lt_of_lt_of_le (show nI 0 - 1 < 0 by decide) (Int32.not_lt.mp h0)), if_pos (show nI 0 ≤ nI j from Int32.not_lt.mp h0)]
    · obtain ⟨w, rfl⟩ : ∃ w, k = w + 1 := ⟨k - 1, by omega⟩
      rw [nI_pred]
      by_cases hl : w < j
      · rw [if_pos ((nI_ltI (by omega) hj).mpr hl), if_pos ((nI_leI (by omega) hj).mpr hl)]
      · rw [if_neg (fun q => hl ((nI_ltI (by omega) hj).mp q)), if_neg (fun q => hl ((nI_leI (by omega) hj).mp q))]
theorem inP_lt {k : Nat} (hk : k < 2 ^ 31) {p : Int32} (h : inP p 0 (nI k - 1) = 0) : p < 0 ∨ (¬ p < 0 ∧ ¬ p < nI k) := by
  rw [inP_pred hk] at h
  by_cases h0 : p < 0
  · exact Or.inl h0
  · rw [if_neg h0] at h
    by_cases h1 : nI k ≤ p
    · exact Or.inr ⟨h0, Int32.not_lt.mpr h1⟩
    · rw [if_neg h1] at h; exact absurd h (by decide)
theorem inP_nlt {k : Nat} (hk : k < 2 ^ 31) {p : Int32} (h : ¬ inP p 0 (nI k - 1) = 0) : ¬ p < 0 ∧ p < nI k := by
  rw [inP_pred hk] at h
  by_cases h0 : p < 0
  · rw [if_pos h0] at h; exact absurd rfl h
  · rw [if_neg h0] at h
    by_cases h1 : nI k ≤ p
    · rw [if_pos h1] at h; exact absurd rfl h
    · exact ⟨h0, Int32.not_le.mp h1⟩
/-- a number of a range, as a natural one -/
theorem in_nat {k : Nat} {p : Int32} (hk : k < 2 ^ 31) (h : ¬ inP p 0 (nI k) = 0) : ∃ j, j ≤ k ∧ p = nI j := by
  obtain ⟨h0, h1⟩ := in_y h
  obtain ⟨j, hj, rfl⟩ := nI_of h0
  exact ⟨j, by have := mi_le (Int32.not_lt.mp h1) hj hk; omega, rfl⟩
abbrev rm_yX8_count : Room := { frames := 7, cells := 0, slots := 0, locals := 160 }
set_option maxHeartbeats 800000 in
set_option maxRecDepth 100000 in
theorem kX8_count {l : Launch} {D : va_G} {cA : ClassId} {ad : Nat → Nat} {ρ T σ : Nat → Nat → Int32} {sz : Nat} {n : Nat} {Lx : Lw} {w : Int32} (hT : okT n T) (hM : okML n σ Lx) : MMi l yX8_count cX8_count 2 FieldType.int rm_yX8_count [.ref (ad 0), .int w] D cA ad ρ T σ sz (fun (r : Int32) (u : Nat → Nat → Int32) => r = countP Lx T (σ 0 9) (σ 0 6) w ∧ Kp ρ u) (fun u : Nat → Nat → Int32 => ment ad cA u T σ) := by
  refine gw_stI (Ff := fun u : Nat → Nat → Int32 => ment ad cA u T σ) (own := RX8) (by decide +kernel) rfl (Nat.le_of_ble_eq_true rfl) ?_
  intro p e s m ar below meth c A Q F hE hsz hW hret ls hl
  obtain ⟨hx, hb, hml, hown, hts⟩ := id F
  have hl : lv_has ls 2 [(0, .ref (ad 0)), (1, .int w)] := hl
  have hs6 := hT.1
  have hsN := hT.2.1
  refine lv_iload_n hx hb dX8_count_0 rfl (lv_at hl 1 rfl) ?_
  by_cases c_1 : w = 0
  ·
    refine lv_tableIn (off := 39) (tgt := 40) hx hb dX8_count_1 (by rw [c_1]; decide) (by rw [c_1]; decide) (by rw [c_1]; rfl) (by decide) ?_
    refine lv_aload_n hx hb dX8_count_40 rfl (lv_at hl 0 rfl) ?_
    refine mr_f F hW 0 (by decide) rfl fl_RX8_69 dX8_count_41 ?_
    exact hret (T 6 1) ρ _ _ _ _ _ hW rfl rfl (by exact ⟨by first | (simp only [countP, in_ite, l3, l10, l60, l6, l40, l100000, l4, l20, l12, c_1, eq_self, if_true, if_false, not_false_eq_true, not_true_eq_false]; done) | (simp [countP, in_ite, l3, l10, l60, l6, l40, l100000, l4, l20, l12, c_1, eq_self, if_true, if_false, not_false_eq_true, not_true_eq_false]; done), Kp.rf⟩) dX8_count_44
  ·
    by_cases c_2 : w = 1
    ·
      refine lv_tableIn (off := 44) (tgt := 45) hx hb dX8_count_1 (by rw [c_2]; decide) (by rw [c_2]; decide) (by rw [c_2]; rfl) (by decide) ?_
      refine lv_aload_n hx hb dX8_count_45 rfl (lv_at hl 0 rfl) ?_
      refine mr_f F hW 4 (by decide) rfl fl_RX8_76 dX8_count_46 ?_
      exact hret (T 6 2) ρ _ _ _ _ _ hW rfl rfl (by exact ⟨by first | (simp only [countP, in_ite, l3, l10, l60, l6, l40, l100000, l4, l20, l12, c_1, c_2, eq_self, if_true, if_false, not_false_eq_true, not_true_eq_false]; done) | (simp [countP, in_ite, l3, l10, l60, l6, l40, l100000, l4, l20, l12, c_1, c_2, eq_self, if_true, if_false, not_false_eq_true, not_true_eq_false]; done), Kp.rf⟩) dX8_count_49
    ·
      by_cases c_3 : w = 2
      ·
        refine lv_tableIn (off := 49) (tgt := 50) hx hb dX8_count_1 (by rw [c_3]; decide) (by rw [c_3]; decide) (by rw [c_3]; rfl) (by decide) ?_
        refine lv_aload_n hx hb dX8_count_50 rfl (lv_at hl 0 rfl) ?_
        refine gw_callVi (As := []) (rest := []) F hl.1 hW (fun _ _ _ => trivial) gw_T_E (by decide) (rfl : ment ad cA _ _ _ 0 = _) rfl (kX8_stuckSet (n := n) (Lx := Lx) hT hM) pd_yX8_stuckSet ml_RX8_79 im_yX8_stuckSet se_yX8_stuckSet ini_RX8 cd_yX8_stuckSet ⟨rfl, rfl⟩ ⟨Nat.le_of_ble_eq_true rfl, Nat.le_of_ble_eq_true rfl⟩ rfl rfl (Nat.le_of_ble_eq_true rfl) ⟨Nat.zero_le _, Nat.zero_le _⟩ dX8_count_51 (fun r ρ_5 H locs hp hW _ _ => ?_)
        obtain ⟨rfl, hk_4⟩ := hp
        refine lv_as (z := stuckBS Lx T) rfl ?_
        refine gw_callP (As := [.int (stuckBS Lx T)]) (rest := []) F hl.1 (kX8_onesOf) pd_yX8_onesOf ml_RX8_82 st_yX8_onesOf ini_RX8 cd_yX8_onesOf ⟨rfl, rfl⟩ ⟨Nat.le_of_ble_eq_true rfl, Nat.le_of_ble_eq_true rfl⟩ rfl rfl (Nat.le_of_ble_eq_true rfl) ⟨Nat.zero_le _, Nat.zero_le _⟩ dX8_count_54 ?_
        refine lv_as (z := onesS (stuckBS Lx T)) rfl ?_
        exact hret (onesS (stuckBS Lx T)) ρ_5 _ _ _ _ _ hW rfl rfl (by exact ⟨by first | (simp only [countP, in_ite, l3, l10, l60, l6, l40, l100000, l4, l20, l12, c_1, c_2, c_3, eq_self, if_true, if_false, not_false_eq_true, not_true_eq_false]; done) | (simp [countP, in_ite, l3, l10, l60, l6, l40, l100000, l4, l20, l12, c_1, c_2, c_3, eq_self, if_true, if_false, not_false_eq_true, not_true_eq_false]; done), (Kp.trans Kp.rf hk_4)⟩) dX8_count_57
      ·
        by_cases c_6 : w = 3
        ·
          refine lv_tableIn (off := 57) (tgt := 58) hx hb dX8_count_1 (by rw [c_6]; decide) (by rw [c_6]; decide) (by rw [c_6]; rfl) (by decide) ?_
          refine lv_aload_n hx hb dX8_count_58 rfl (lv_at hl 0 rfl) ?_
          refine mr_f F hW 9 (by decide) rfl fl_RX8_86 dX8_count_59 ?_
          exact hret (σ 0 9) ρ _ _ _ _ _ hW rfl rfl (by exact ⟨by first | (simp only [countP, in_ite, l3, l10, l60, l6, l40, l100000, l4, l20, l12, c_1, c_2, c_3, c_6, eq_self, if_true, if_false, not_false_eq_true, not_true_eq_false]; done) | (simp [countP, in_ite, l3, l10, l60, l6, l40, l100000, l4, l20, l12, c_1, c_2, c_3, c_6, eq_self, if_true, if_false, not_false_eq_true, not_true_eq_false]; done), Kp.rf⟩) dX8_count_62
        ·
          by_cases c_7 : w = 4
          ·
            refine lv_tableIn (off := 62) (tgt := 63) hx hb dX8_count_1 (by rw [c_7]; decide) (by rw [c_7]; decide) (by rw [c_7]; rfl) (by decide) ?_
            refine lv_aload_n hx hb dX8_count_63 rfl (lv_at hl 0 rfl) ?_
            refine mr_f F hW 10 (by decide) rfl fl_RX8_89 dX8_count_64 ?_
            exact hret (T 6 3) ρ _ _ _ _ _ hW rfl rfl (by exact ⟨by first | (simp only [countP, in_ite, l3, l10, l60, l6, l40, l100000, l4, l20, l12, c_1, c_2, c_3, c_6, c_7, eq_self, if_true, if_false, not_false_eq_true, not_true_eq_false]; done) | (simp [countP, in_ite, l3, l10, l60, l6, l40, l100000, l4, l20, l12, c_1, c_2, c_3, c_6, c_7, eq_self, if_true, if_false, not_false_eq_true, not_true_eq_false]; done), Kp.rf⟩) dX8_count_67
          ·
            by_cases c_8 : w = 5
            ·
              refine lv_tableIn (off := 67) (tgt := 68) hx hb dX8_count_1 (by rw [c_8]; decide) (by rw [c_8]; decide) (by rw [c_8]; rfl) (by decide) ?_
              refine lv_aload_n hx hb dX8_count_68 rfl (lv_at hl 0 rfl) ?_
              refine mr_f F hW 6 (by decide) rfl fl_RX8_61 dX8_count_69 ?_
              exact hret (σ 0 6) ρ _ _ _ _ _ hW rfl rfl (by exact ⟨by first | (simp only [countP, in_ite, l3, l10, l60, l6, l40, l100000, l4, l20, l12, c_1, c_2, c_3, c_6, c_7, c_8, eq_self, if_true, if_false, not_false_eq_true, not_true_eq_false]; done) | (simp [countP, in_ite, l3, l10, l60, l6, l40, l100000, l4, l20, l12, c_1, c_2, c_3, c_6, c_7, c_8, eq_self, if_true, if_false, not_false_eq_true, not_true_eq_false]; done), Kp.rf⟩) dX8_count_72
            ·
              refine lv_tableOut (tgt := 73) hx hb dX8_count_1 (tb_out6_0 c_1 c_2 c_3 c_6 c_7 c_8) (by decide) ?_
              refine lv_bipush (v := (-2)) hx hb dX8_count_73 (by decide) ?_
              exact hret (-2) ρ _ _ _ _ _ hW rfl rfl (by exact ⟨by first | (simp only [countP, in_ite, l3, l10, l60, l6, l40, l100000, l4, l20, l12, c_1, c_2, c_3, c_6, c_7, c_8, eq_self, if_true, if_false, not_false_eq_true, not_true_eq_false]; done) | (simp [countP, in_ite, l3, l10, l60, l6, l40, l100000, l4, l20, l12, c_1, c_2, c_3, c_6, c_7, c_8, eq_self, if_true, if_false, not_false_eq_true, not_true_eq_false]; done), Kp.rf⟩) dX8_count_75
abbrev rm_yX8_clock : Room := { frames := 1, cells := 0, slots := 0, locals := 22 }
set_option maxHeartbeats 800000 in
set_option maxRecDepth 100000 in
theorem kX8_clock {l : Launch} {D : va_G} {cA : ClassId} {ad : Nat → Nat} {ρ T σ : Nat → Nat → Int32} {sz : Nat} {v : Int32}  : MMi l yX8_clock cX8_clock 3 FieldType.int rm_yX8_clock [.ref (ad 0), .int v] D cA ad ρ T σ sz (fun (r : Int32) (u : Tb) => r = (clockP T v).1 ∧ u = (clockP T v).2) (fun u : Tb => ment ad cA ρ u σ) := by
  refine gw_stI (Ff := fun u : Tb => ment ad cA ρ u σ) (own := RX8) (by decide +kernel) rfl (Nat.le_of_ble_eq_true rfl) ?_
  intro p e s m ar below meth c A Q F hE hsz hW hret ls hl
  obtain ⟨hx, hb, hml, hown, hts⟩ := id F
  have hl : lv_has ls 3 [(0, .ref (ad 0)), (1, .int v)] := hl
  refine lv_iload_n hx hb dX8_clock_0 rfl (lv_at hl 1 rfl) ?_
  refine lv_iconst (v := 0) hx hb dX8_clock_1 (by decide) ?_
  refine lv_sipush (v := 999) hx hb dX8_clock_2 (by decide) ?_
  refine gw_callP (As := [.int v, .int 0, .int 999]) (rest := []) F hl.1 (kX8_in) pd_yX8_in ml_RX8_72 st_yX8_in ini_RX8 cd_yX8_in ⟨rfl, rfl⟩ ⟨Nat.le_of_ble_eq_true rfl, Nat.le_of_ble_eq_true rfl⟩ rfl rfl (Nat.le_of_ble_eq_true rfl) ⟨Nat.zero_le _, Nat.zero_le _⟩ dX8_clock_5 ?_
  refine lv_as (z := inP v 0 999) rfl ?_
  refine lv_if_ne (tgt := 14) hx hb dX8_clock_8 (by decide) (fun c_1 => ?_) (fun c_1 => ?_)
  ·
    refine lv_aload_n hx hb dX8_clock_14 rfl (lv_at hl 0 rfl) ?_
    refine mr_f F hW 4 (by decide) rfl fl_RX8_76 dX8_clock_15 ?_
    refine lv_istore_n (lv' := [(2, .int (T 6 2)), (0, .ref (ad 0)), (1, .int v)]) hx hb dX8_clock_18 rfl hl (by decide) rfl (fun ls hl => ?_)
    refine lv_aload_n hx hb dX8_clock_19 rfl (lv_at hl 1 rfl) ?_
    refine lv_iload_n hx hb dX8_clock_20 rfl (lv_at hl 2 rfl) ?_
    refine mw_T (j := 2) F hW 4 (by decide) fl_RX8_76 dX8_clock_21 (fun H locs hW => ?_)
    refine lv_iload_n hx hb dX8_clock_24 rfl (lv_at hl 0 rfl) ?_
    exact hret (T 6 2) (upT T 6 2 v) _ _ _ _ _ hW rfl rfl (by exact ⟨by first | (simp only [clockP, in_ite, l3, l10, l60, l6, l40, l100000, l4, l20, l12, c_1, eq_self, if_true, if_false, not_false_eq_true, not_true_eq_false]; done) | (simp [clockP, in_ite, l3, l10, l60, l6, l40, l100000, l4, l20, l12, c_1, eq_self, if_true, if_false, not_false_eq_true, not_true_eq_false]; done), by first | (simp only [clockP, in_ite, l3, l10, l60, l6, l40, l100000, l4, l20, l12, c_1, eq_self, if_true, if_false, not_false_eq_true, not_true_eq_false]; done) | (simp [clockP, in_ite, l3, l10, l60, l6, l40, l100000, l4, l20, l12, c_1, eq_self, if_true, if_false, not_false_eq_true, not_true_eq_false]; done)⟩) dX8_clock_25
  ·
    refine lv_bipush (v := (-2)) hx hb dX8_clock_11 (by decide) ?_
    exact hret (-2) T _ _ _ _ _ hW rfl rfl (by exact ⟨by first | (simp only [clockP, in_ite, l3, l10, l60, l6, l40, l100000, l4, l20, l12, c_1, eq_self, if_true, if_false, not_false_eq_true, not_true_eq_false]; done) | (simp [clockP, in_ite, l3, l10, l60, l6, l40, l100000, l4, l20, l12, c_1, eq_self, if_true, if_false, not_false_eq_true, not_true_eq_false]; done), by first | (simp only [clockP, in_ite, l3, l10, l60, l6, l40, l100000, l4, l20, l12, c_1, eq_self, if_true, if_false, not_false_eq_true, not_true_eq_false]; done) | (simp [clockP, in_ite, l3, l10, l60, l6, l40, l100000, l4, l20, l12, c_1, eq_self, if_true, if_false, not_false_eq_true, not_true_eq_false]; done)⟩) dX8_clock_13
theorem force_no {n : Nat} {T : Tb} {t : Int32} (hn : n < 2 ^ 31) (h : inP t 0 (nI n - 1) = 0) : (-2 : Int32) = (forceP (nI n) T t).1 ∧ T = (forceP (nI n) T t).2 := by
  unfold forceP
  rcases inP_lt hn h with h0 | ⟨h0, h1⟩
  · rw [if_pos h0]; exact ⟨rfl, rfl⟩
  · rw [if_neg h0, if_neg h1]; exact ⟨rfl, rfl⟩
abbrev rm_yX8_force : Room := { frames := 1, cells := 0, slots := 0, locals := 22 }
set_option maxHeartbeats 800000 in
set_option maxRecDepth 100000 in
theorem kX8_force {l : Launch} {D : va_G} {cA : ClassId} {ad : Nat → Nat} {ρ T σ : Nat → Nat → Int32} {sz : Nat} {n : Nat} {t : Int32} (hn6 : n ≤ 6) (hc : σ 0 9 = nI n) : MMi l yX8_force cX8_force 3 FieldType.int rm_yX8_force [.ref (ad 0), .int t] D cA ad ρ T σ sz (fun (r : Int32) (u : Tb) => r = (forceP (nI n) T t).1 ∧ u = (forceP (nI n) T t).2) (fun u : Tb => ment ad cA ρ u σ) := by
  refine gw_stI (Ff := fun u : Tb => ment ad cA ρ u σ) (own := RX8) (by decide +kernel) rfl (Nat.le_of_ble_eq_true rfl) ?_
  intro p e s m ar below meth c A Q F hE hsz hW hret ls hl
  obtain ⟨hx, hb, hml, hown, hts⟩ := id F
  have hl : lv_has ls 3 [(0, .ref (ad 0)), (1, .int t)] := hl
  refine lv_iload_n hx hb dX8_force_0 rfl (lv_at hl 1 rfl) ?_
  refine lv_iconst (v := 0) hx hb dX8_force_1 (by decide) ?_
  refine lv_aload_n hx hb dX8_force_2 rfl (lv_at hl 0 rfl) ?_
  refine mr_f F hW 9 (by decide) rfl fl_RX8_86 dX8_force_3 ?_
  refine lv_as (z := nI n) (hc) ?_
  refine lv_iconst (v := 1) hx hb dX8_force_6 (by decide) ?_
  refine lv_isub hx hb dX8_force_7 ?_
  refine gw_callP (As := [.int t, .int 0, .int ((nI n) - 1)]) (rest := []) F hl.1 (kX8_in) pd_yX8_in ml_RX8_72 st_yX8_in ini_RX8 cd_yX8_in ⟨rfl, rfl⟩ ⟨Nat.le_of_ble_eq_true rfl, Nat.le_of_ble_eq_true rfl⟩ rfl rfl (Nat.le_of_ble_eq_true rfl) ⟨Nat.zero_le _, Nat.zero_le _⟩ dX8_force_8 ?_
  refine lv_as (z := inP t 0 ((nI n) - 1)) rfl ?_
  refine lv_if_ne (tgt := 17) hx hb dX8_force_11 (by decide) (fun c_1 => ?_) (fun c_1 => ?_)
  ·
    refine lv_aload_n hx hb dX8_force_17 rfl (lv_at hl 0 rfl) ?_
    refine mr_f F hW 10 (by decide) rfl fl_RX8_89 dX8_force_18 ?_
    refine lv_istore_n (lv' := [(2, .int (T 6 3)), (0, .ref (ad 0)), (1, .int t)]) hx hb dX8_force_21 rfl hl (by decide) rfl (fun ls hl => ?_)
    refine lv_aload_n hx hb dX8_force_22 rfl (lv_at hl 1 rfl) ?_
    refine lv_iload_n hx hb dX8_force_23 rfl (lv_at hl 2 rfl) ?_
    refine mw_T (j := 3) F hW 10 (by decide) fl_RX8_89 dX8_force_24 (fun H locs hW => ?_)
    refine lv_iload_n hx hb dX8_force_27 rfl (lv_at hl 0 rfl) ?_
    exact hret (T 6 3) (upT T 6 3 t) _ _ _ _ _ hW rfl rfl (by obtain ⟨h0, h1⟩ := inP_nlt (by omega) c_1; unfold forceP; rw [if_neg h0, if_pos h1]; exact ⟨rfl, rfl⟩) dX8_force_28
  ·
    refine lv_bipush (v := (-2)) hx hb dX8_force_14 (by decide) ?_
    exact hret (-2) T _ _ _ _ _ hW rfl rfl (force_no (by omega) c_1) dX8_force_16
abbrev rm_yX8_asks : Room := { frames := 3, cells := 0, slots := 0, locals := 68 }
set_option maxHeartbeats 800000 in
set_option maxRecDepth 100000 in
theorem kX8_asks {l : Launch} {D : va_G} {cA : ClassId} {ad : Nat → Nat} {ρ T σ : Nat → Nat → Int32} {sz : Nat} {n : Nat} {Lx : Lw} {a pp : Int32} (hT : okT n T) (hM : okML n σ Lx) : MMi l yX8_asks cX8_asks 3 FieldType.int rm_yX8_asks [.ref (ad 0), .int a, .int pp] D cA ad ρ T σ sz (fun (r : Int32) (u : Nat → Nat → Int32) => r = asksP Lx T a pp ∧ Kp ρ u) (fun u : Nat → Nat → Int32 => ment ad cA u T σ) := by
  refine gw_stI (Ff := fun u : Nat → Nat → Int32 => ment ad cA u T σ) (own := RX8) (by decide +kernel) rfl (Nat.le_of_ble_eq_true rfl) ?_
  intro p e s m ar below meth c A Q F hE hsz hW hret ls hl
  obtain ⟨hx, hb, hml, hown, hts⟩ := id F
  have hl : lv_has ls 3 [(0, .ref (ad 0)), (1, .int a), (2, .int pp)] := hl
  have hs6 := hT.1
  have hsN := hT.2.1
  refine lv_iload_n hx hb dX8_asks_0 rfl (lv_at hl 1 rfl) ?_
  refine lv_iconst (v := 0) hx hb dX8_asks_1 (by decide) ?_
  refine lv_iconst (v := 2) hx hb dX8_asks_2 (by decide) ?_
  refine gw_callP (As := [.int a, .int 0, .int 2]) (rest := []) F hl.1 (kX8_in) pd_yX8_in ml_RX8_72 st_yX8_in ini_RX8 cd_yX8_in ⟨rfl, rfl⟩ ⟨Nat.le_of_ble_eq_true rfl, Nat.le_of_ble_eq_true rfl⟩ rfl rfl (Nat.le_of_ble_eq_true rfl) ⟨Nat.zero_le _, Nat.zero_le _⟩ dX8_asks_3 ?_
  refine lv_as (z := inP a 0 2) rfl ?_
  refine lv_if_eq (tgt := 26) hx hb dX8_asks_6 (by decide) (fun c_1 => ?_) (fun c_1 => ?_)
  ·
    refine lv_sipush (v := (-1000)) hx hb dX8_asks_26 (by decide) ?_
    exact hret (-1000) ρ _ _ _ _ _ hW rfl rfl (by exact ⟨by first | (simp only [asksP, in_ite, l3, l10, l60, l6, l40, l100000, l4, l20, l12, c_1, eq_self, if_true, if_false, not_false_eq_true, not_true_eq_false]; done) | (simp [asksP, in_ite, l3, l10, l60, l6, l40, l100000, l4, l20, l12, c_1, eq_self, if_true, if_false, not_false_eq_true, not_true_eq_false]; done), Kp.rf⟩) dX8_asks_29
  ·
    obtain ⟨pt, hpt2, rfl⟩ := in_nat (k := 2) (by decide) c_1; have hpt : pt < 3 := (by omega); have hipt : iN (nI pt) = pt := iN_nI (by omega)
    refine lv_aload_n hx hb dX8_asks_9 rfl (lv_at hl 0 rfl) ?_
    refine lv_iload_n hx hb dX8_asks_10 rfl (lv_at hl 2 rfl) ?_
    refine gw_callVi (As := [.int pp]) (rest := []) F hl.1 hW (fun _ _ _ => trivial) gw_T_E (by decide) (rfl : ment ad cA _ _ _ 0 = _) rfl (kX8_isOne (n := n) hT) pd_yX8_isOne ml_RX8_161 im_yX8_isOne se_yX8_isOne ini_RX8 cd_yX8_isOne ⟨rfl, rfl⟩ ⟨Nat.le_of_ble_eq_true rfl, Nat.le_of_ble_eq_true rfl⟩ rfl rfl (Nat.le_of_ble_eq_true rfl) ⟨Nat.zero_le _, Nat.zero_le _⟩ dX8_asks_11 (fun r u H locs hp hW _ _ => ?_)
    subst hp
    refine lv_as (z := oneP T pp) rfl ?_
    refine lv_if_eq (tgt := 26) hx hb dX8_asks_14 (by decide) (fun c_2 => ?_) (fun c_2 => ?_)
    ·
      refine lv_sipush (v := (-1000)) hx hb dX8_asks_26 (by decide) ?_
      exact hret (-1000) ρ _ _ _ _ _ hW rfl rfl (by exact ⟨by first | (simp only [asksP, hipt, in_ite, l3, l10, l60, l6, l40, l100000, l4, l20, l12, c_1, c_2, eq_self, if_true, if_false, not_false_eq_true, not_true_eq_false]; done) | (simp [asksP, hipt, in_ite, l3, l10, l60, l6, l40, l100000, l4, l20, l12, c_1, c_2, eq_self, if_true, if_false, not_false_eq_true, not_true_eq_false]; done), Kp.rf⟩) dX8_asks_29
    ·
      obtain ⟨q, hq, rfl⟩ := one_nat hT c_2; have hq6 : q < 6 := seats_le hT hq; have hiq : iN (nI q) = q := iN_nI (by omega); have hGq := hT.2.2.2.2 q hq
      refine lv_aload_n hx hb dX8_asks_17 rfl (lv_at hl 0 rfl) ?_
      refine lv_iload_n hx hb dX8_asks_18 rfl (lv_at hl 1 rfl) ?_
      refine lv_iload_n hx hb dX8_asks_19 rfl (lv_at hl 2 rfl) ?_
      refine gw_callVi (As := [.int (nI pt), .int (nI q)]) (rest := []) F hl.1 hW (fun _ _ _ => trivial) gw_T_E (by decide) (rfl : ment ad cA _ _ _ 0 = _) rfl (kX8_asksOf (n := n) (q := q) (pt := pt) (Lx := Lx) hT hM hq hpt) pd_yX8_asksOf ml_RX8_164 im_yX8_asksOf se_yX8_asksOf ini_RX8 cd_yX8_asksOf ⟨rfl, rfl⟩ ⟨Nat.le_of_ble_eq_true rfl, Nat.le_of_ble_eq_true rfl⟩ rfl rfl (Nat.le_of_ble_eq_true rfl) ⟨Nat.zero_le _, Nat.zero_le _⟩ dX8_asks_20 (fun r ρ_4 H locs hp hW _ _ => ?_)
      obtain ⟨rfl, hk_3⟩ := hp
      refine lv_as (z := saysS Lx T pt q) rfl ?_
      refine lv_goto (tgt := 29) hx hb dX8_asks_23 (by decide) ?_
      exact hret (saysS Lx T pt q) ρ_4 _ _ _ _ _ hW rfl rfl (by exact ⟨by first | (simp only [asksP, hipt, hiq, in_ite, l3, l10, l60, l6, l40, l100000, l4, l20, l12, c_1, c_2, eq_self, if_true, if_false, not_false_eq_true, not_true_eq_false]; done) | (simp [asksP, hipt, hiq, in_ite, l3, l10, l60, l6, l40, l100000, l4, l20, l12, c_1, c_2, eq_self, if_true, if_false, not_false_eq_true, not_true_eq_false]; done), (Kp.trans Kp.rf hk_3)⟩) dX8_asks_29
abbrev rm_yX8_guest : Room := { frames := 1, cells := 0, slots := 0, locals := 22 }
set_option maxHeartbeats 800000 in
set_option maxRecDepth 100000 in
theorem kX8_guest {l : Launch} {D : va_G} {cA : ClassId} {ad : Nat → Nat} {ρ T σ : Nat → Nat → Int32} {sz : Nat} {n : Nat} {km w sh : Int32} (hT : okT n T) : MMi l yX8_guest cX8_guest 4 FieldType.int rm_yX8_guest [.ref (ad 0), .int km, .int w, .int sh] D cA ad ρ T σ sz (fun (r : Int32) (u : Tb) => r = (guestP T km w sh).1 ∧ u = (guestP T km w sh).2) (fun u : Tb => ment ad cA ρ u σ) := by
  refine gw_stI (Ff := fun u : Tb => ment ad cA ρ u σ) (own := RX8) (by decide +kernel) rfl (Nat.le_of_ble_eq_true rfl) ?_
  intro p e s m ar below meth c A Q F hE hsz hW hret ls hl
  obtain ⟨hx, hb, hml, hown, hts⟩ := id F
  have hl : lv_has ls 4 [(0, .ref (ad 0)), (1, .int km), (2, .int w), (3, .int sh)] := hl
  have hs6 := hT.1
  have hsN := hT.2.1
  refine lv_iload_n hx hb dX8_guest_0 rfl (lv_at hl 1 rfl) ?_
  refine lv_iconst (v := 0) hx hb dX8_guest_1 (by decide) ?_
  refine lv_bipush (v := 59) hx hb dX8_guest_2 (by decide) ?_
  refine gw_callP (As := [.int km, .int 0, .int 59]) (rest := []) F hl.1 (kX8_in) pd_yX8_in ml_RX8_72 st_yX8_in ini_RX8 cd_yX8_in ⟨rfl, rfl⟩ ⟨Nat.le_of_ble_eq_true rfl, Nat.le_of_ble_eq_true rfl⟩ rfl rfl (Nat.le_of_ble_eq_true rfl) ⟨Nat.zero_le _, Nat.zero_le _⟩ dX8_guest_4 ?_
  refine lv_as (z := inP km 0 59) rfl ?_
  refine lv_if_eq (tgt := 31) hx hb dX8_guest_7 (by decide) (fun c_1 => ?_) (fun c_1 => ?_)
  ·
    refine lv_bipush (v := (-2)) hx hb dX8_guest_31 (by decide) ?_
    exact hret (-2) T _ _ _ _ _ hW rfl rfl (by exact ⟨by first | (simp only [guestP, in_ite, l3, l10, l60, l6, l40, l100000, l4, l20, l12, c_1, eq_self, if_true, if_false, not_false_eq_true, not_true_eq_false]; done) | (simp [guestP, in_ite, l3, l10, l60, l6, l40, l100000, l4, l20, l12, c_1, eq_self, if_true, if_false, not_false_eq_true, not_true_eq_false]; done), by first | (simp only [guestP, in_ite, l3, l10, l60, l6, l40, l100000, l4, l20, l12, c_1, eq_self, if_true, if_false, not_false_eq_true, not_true_eq_false]; done) | (simp [guestP, in_ite, l3, l10, l60, l6, l40, l100000, l4, l20, l12, c_1, eq_self, if_true, if_false, not_false_eq_true, not_true_eq_false]; done)⟩) dX8_guest_33
  ·
    refine lv_iload_n hx hb dX8_guest_10 rfl (lv_at hl 2 rfl) ?_
    refine lv_iconst (v := 0) hx hb dX8_guest_11 (by decide) ?_
    refine lv_sipush (v := 1023) hx hb dX8_guest_12 (by decide) ?_
    refine gw_callP (As := [.int w, .int 0, .int 1023]) (rest := []) F hl.1 (kX8_in) pd_yX8_in ml_RX8_72 st_yX8_in ini_RX8 cd_yX8_in ⟨rfl, rfl⟩ ⟨Nat.le_of_ble_eq_true rfl, Nat.le_of_ble_eq_true rfl⟩ rfl rfl (Nat.le_of_ble_eq_true rfl) ⟨Nat.zero_le _, Nat.zero_le _⟩ dX8_guest_15 ?_
    refine lv_as (z := inP w 0 1023) rfl ?_
    refine lv_if_eq (tgt := 31) hx hb dX8_guest_18 (by decide) (fun c_2 => ?_) (fun c_2 => ?_)
    ·
      refine lv_bipush (v := (-2)) hx hb dX8_guest_31 (by decide) ?_
      exact hret (-2) T _ _ _ _ _ hW rfl rfl (by exact ⟨by first | (simp only [guestP, in_ite, l3, l10, l60, l6, l40, l100000, l4, l20, l12, c_1, c_2, eq_self, if_true, if_false, not_false_eq_true, not_true_eq_false]; done) | (simp [guestP, in_ite, l3, l10, l60, l6, l40, l100000, l4, l20, l12, c_1, c_2, eq_self, if_true, if_false, not_false_eq_true, not_true_eq_false]; done), by first | (simp only [guestP, in_ite, l3, l10, l60, l6, l40, l100000, l4, l20, l12, c_1, c_2, eq_self, if_true, if_false, not_false_eq_true, not_true_eq_false]; done) | (simp [guestP, in_ite, l3, l10, l60, l6, l40, l100000, l4, l20, l12, c_1, c_2, eq_self, if_true, if_false, not_false_eq_true, not_true_eq_false]; done)⟩) dX8_guest_33
    ·
      refine lv_iload_n hx hb dX8_guest_21 rfl (lv_at hl 3 rfl) ?_
      refine lv_iconst (v := 0) hx hb dX8_guest_22 (by decide) ?_
      refine lv_bipush (v := 99) hx hb dX8_guest_23 (by decide) ?_
      refine gw_callP (As := [.int sh, .int 0, .int 99]) (rest := []) F hl.1 (kX8_in) pd_yX8_in ml_RX8_72 st_yX8_in ini_RX8 cd_yX8_in ⟨rfl, rfl⟩ ⟨Nat.le_of_ble_eq_true rfl, Nat.le_of_ble_eq_true rfl⟩ rfl rfl (Nat.le_of_ble_eq_true rfl) ⟨Nat.zero_le _, Nat.zero_le _⟩ dX8_guest_25 ?_
      refine lv_as (z := inP sh 0 99) rfl ?_
      refine lv_if_ne (tgt := 34) hx hb dX8_guest_28 (by decide) (fun c_3 => ?_) (fun c_3 => ?_)
      ·
        refine lv_aload_n hx hb dX8_guest_34 rfl (lv_at hl 0 rfl) ?_
        refine mr_f F hW 0 (by decide) rfl fl_RX8_69 dX8_guest_35 ?_
        refine lv_as (z := nI (seatsN T)) (by first | exact hsN | (simp only [e6]; exact hsN)) ?_
        refine lv_bipush (v := 6) hx hb dX8_guest_38 (by decide) ?_
        refine lv_icmp_ne (tgt := 46) hx hb dX8_guest_40 (by decide) (fun c_4 => ?_) (fun c_4 => ?_)
        ·
          have hs5 : seatsN T < 6 := (by have : ¬ seatsN T = 6 := (fun z => c_4 (by rw [z]; rfl)); omega); have e6 : ∀ (U : Tb) (k : Nat) (v : Int32), upT U (seatsN T) k v 6 = U 6 := fun U k v => va_up_ne _ _ (by omega); have e61 : T 6 1 < 6 := by rw [hsN]; exact nI_lt (b := 6) hs5 (by decide)
          refine lv_aload_n hx hb dX8_guest_46 rfl (lv_at hl 0 rfl) ?_
          refine mr_f F hW 1 (by decide) rfl fl_RX8_7 dX8_guest_47 ?_
          refine lv_aload_n hx hb dX8_guest_50 rfl (lv_at hl 0 rfl) ?_
          refine mr_f F hW 0 (by decide) rfl fl_RX8_69 dX8_guest_51 ?_
          refine lv_as (z := nI (seatsN T)) (by first | exact hsN | (simp only [e6]; exact hsN)) ?_
          refine lv_iload_n hx hb dX8_guest_54 rfl (lv_at hl 1 rfl) ?_
          refine lv_bipush (v := 10) hx hb dX8_guest_55 (by decide) ?_
          refine lv_idiv hx hb dX8_guest_57 (by decide) ?_
          refine mw_kind (seatsN T) (by omega) rfl F hW dX8_guest_58 (fun H locs hW => ?_)
          refine lv_aload_n hx hb dX8_guest_59 rfl (lv_at hl 0 rfl) ?_
          refine mr_f F hW 2 (by decide) rfl fl_RX8_13 dX8_guest_60 ?_
          refine lv_aload_n hx hb dX8_guest_63 rfl (lv_at hl 0 rfl) ?_
          refine mr_f F hW 0 (by decide) rfl fl_RX8_69 dX8_guest_64 ?_
          refine lv_as (z := nI (seatsN T)) (by first | exact hsN | (simp only [e6]; exact hsN)) ?_
          refine lv_iload_n hx hb dX8_guest_67 rfl (lv_at hl 1 rfl) ?_
          refine lv_bipush (v := 10) hx hb dX8_guest_68 (by decide) ?_
          refine lv_irem hx hb dX8_guest_70 (by decide) ?_
          refine mw_more (seatsN T) (by omega) rfl F hW dX8_guest_71 (fun H locs hW => ?_)
          refine lv_aload_n hx hb dX8_guest_72 rfl (lv_at hl 0 rfl) ?_
          refine mr_f F hW 3 (by decide) rfl fl_RX8_16 dX8_guest_73 ?_
          refine lv_iconst (v := 5) hx hb dX8_guest_76 (by decide) ?_
          refine lv_aload_n hx hb dX8_guest_77 rfl (lv_at hl 0 rfl) ?_
          refine mr_f F hW 0 (by decide) rfl fl_RX8_69 dX8_guest_78 ?_
          refine lv_as (z := nI (seatsN T)) (by first | exact hsN | (simp only [e6]; exact hsN)) ?_
          refine lv_imul hx hb dX8_guest_81 ?_
          refine lv_iload_n hx hb dX8_guest_82 rfl (lv_at hl 2 rfl) ?_
          refine mw_rows (seatsN T) 0 (by omega) (by decide) (mi_50 (seatsN T)) F hW dX8_guest_83 (fun H locs hW => ?_)
          refine lv_aload_n hx hb dX8_guest_84 rfl (lv_at hl 0 rfl) ?_
          refine mr_f F hW 3 (by decide) rfl fl_RX8_16 dX8_guest_85 ?_
          refine lv_iconst (v := 5) hx hb dX8_guest_88 (by decide) ?_
          refine lv_aload_n hx hb dX8_guest_89 rfl (lv_at hl 0 rfl) ?_
          refine mr_f F hW 0 (by decide) rfl fl_RX8_69 dX8_guest_90 ?_
          refine lv_as (z := nI (seatsN T)) (by first | exact hsN | (simp only [e6]; exact hsN)) ?_
          refine lv_imul hx hb dX8_guest_93 ?_
          refine lv_iconst (v := 1) hx hb dX8_guest_94 (by decide) ?_
          refine lv_iadd hx hb dX8_guest_95 ?_
          refine lv_iload_n hx hb dX8_guest_96 rfl (lv_at hl 3 rfl) ?_
          refine mw_rows (seatsN T) 1 (by omega) (by decide) (mi_5k (seatsN T) 1) F hW dX8_guest_97 (fun H locs hW => ?_)
          refine lv_aload_n hx hb dX8_guest_98 rfl (lv_at hl 0 rfl) ?_
          refine mr_f F hW 3 (by decide) rfl fl_RX8_16 dX8_guest_99 ?_
          refine lv_iconst (v := 5) hx hb dX8_guest_102 (by decide) ?_
          refine lv_aload_n hx hb dX8_guest_103 rfl (lv_at hl 0 rfl) ?_
          refine mr_f F hW 0 (by decide) rfl fl_RX8_69 dX8_guest_104 ?_
          refine lv_as (z := nI (seatsN T)) (by first | exact hsN | (simp only [e6]; exact hsN)) ?_
          refine lv_imul hx hb dX8_guest_107 ?_
          refine lv_iconst (v := 2) hx hb dX8_guest_108 (by decide) ?_
          refine lv_iadd hx hb dX8_guest_109 ?_
          refine lv_iconst (v := 0) hx hb dX8_guest_110 (by decide) ?_
          refine mw_rows (seatsN T) 2 (by omega) (by decide) (mi_5k (seatsN T) 2) F hW dX8_guest_111 (fun H locs hW => ?_)
          refine lv_aload_n hx hb dX8_guest_112 rfl (lv_at hl 0 rfl) ?_
          refine mr_f F hW 3 (by decide) rfl fl_RX8_16 dX8_guest_113 ?_
          refine lv_iconst (v := 5) hx hb dX8_guest_116 (by decide) ?_
          refine lv_aload_n hx hb dX8_guest_117 rfl (lv_at hl 0 rfl) ?_
          refine mr_f F hW 0 (by decide) rfl fl_RX8_69 dX8_guest_118 ?_
          refine lv_as (z := nI (seatsN T)) (by first | exact hsN | (simp only [e6]; exact hsN)) ?_
          refine lv_imul hx hb dX8_guest_121 ?_
          refine lv_iconst (v := 3) hx hb dX8_guest_122 (by decide) ?_
          refine lv_iadd hx hb dX8_guest_123 ?_
          refine lv_iconst (v := 0) hx hb dX8_guest_124 (by decide) ?_
          refine mw_rows (seatsN T) 3 (by omega) (by decide) (mi_5k (seatsN T) 3) F hW dX8_guest_125 (fun H locs hW => ?_)
          refine lv_aload_n hx hb dX8_guest_126 rfl (lv_at hl 0 rfl) ?_
          refine mr_f F hW 3 (by decide) rfl fl_RX8_16 dX8_guest_127 ?_
          refine lv_iconst (v := 5) hx hb dX8_guest_130 (by decide) ?_
          refine lv_aload_n hx hb dX8_guest_131 rfl (lv_at hl 0 rfl) ?_
          refine mr_f F hW 0 (by decide) rfl fl_RX8_69 dX8_guest_132 ?_
          refine lv_as (z := nI (seatsN T)) (by first | exact hsN | (simp only [e6]; exact hsN)) ?_
          refine lv_imul hx hb dX8_guest_135 ?_
          refine lv_iconst (v := 4) hx hb dX8_guest_136 (by decide) ?_
          refine lv_iadd hx hb dX8_guest_137 ?_
          refine lv_iconst (v := 0) hx hb dX8_guest_138 (by decide) ?_
          refine mw_rows (seatsN T) 4 (by omega) (by decide) (mi_5k (seatsN T) 4) F hW dX8_guest_139 (fun H locs hW => ?_)
          refine lv_aload_n hx hb dX8_guest_140 rfl (lv_at hl 0 rfl) ?_
          refine lv_dup hx hb dX8_guest_141 rfl ?_
          refine mr_f F hW 0 (by decide) rfl fl_RX8_69 dX8_guest_142 ?_
          refine lv_as (z := T 6 1) (by simp only [e6]) ?_
          refine lv_iconst (v := 1) hx hb dX8_guest_145 (by decide) ?_
          refine lv_iadd hx hb dX8_guest_146 ?_
          refine mw_T (j := 1) F hW 0 (by decide) fl_RX8_69 dX8_guest_147 (fun H locs hW => ?_)
          refine lv_aload_n hx hb dX8_guest_150 rfl (lv_at hl 0 rfl) ?_
          refine mr_f F hW 0 (by decide) rfl fl_RX8_69 dX8_guest_151 ?_
          refine lv_as (z := T 6 1 + 1) (upT_at) ?_
          refine lv_iconst (v := 1) hx hb dX8_guest_154 (by decide) ?_
          refine lv_isub hx hb dX8_guest_155 ?_
          exact hret ((T 6 1 + 1) - 1) (upT (upT (upT (upT (upT (upT (upT (upT T (seatsN T) 0 (km / 10)) (seatsN T) 1 (km - km / 10 * 10)) (seatsN T) 2 w) (seatsN T) 3 sh) (seatsN T) 4 0) (seatsN T) 5 0) (seatsN T) 6 0) 6 1 ((T 6 1) + 1)) _ _ _ _ _ hW rfl rfl (by exact ⟨by first | (simp only [guestP, e61, in_ite, l3, l10, l60, l6, l40, l100000, l4, l20, l12, c_1, c_2, c_3, c_4, eq_self, if_true, if_false, not_false_eq_true, not_true_eq_false]; done) | (simp [guestP, e61, in_ite, l3, l10, l60, l6, l40, l100000, l4, l20, l12, c_1, c_2, c_3, c_4, eq_self, if_true, if_false, not_false_eq_true, not_true_eq_false]; done), by first | (simp only [guestP, e61, newG, comeR, upT, va_up_self, bx_uu, in_ite, l3, l10, l60, l6, l40, l100000, l4, l20, l12, c_1, c_2, c_3, c_4, eq_self, if_true, if_false, not_false_eq_true, not_true_eq_false]; done) | (simp [guestP, e61, newG, comeR, upT, va_up_self, bx_uu, in_ite, l3, l10, l60, l6, l40, l100000, l4, l20, l12, c_1, c_2, c_3, c_4, eq_self, if_true, if_false, not_false_eq_true, not_true_eq_false]; done)⟩) dX8_guest_156
        ·
          refine lv_bipush (v := (-4)) hx hb dX8_guest_43 (by decide) ?_
          exact hret (-4) T _ _ _ _ _ hW rfl rfl (by have e61 : ¬ T 6 1 < 6 := (by rw [hsN, c_4]; decide); exact ⟨by first | (simp only [guestP, e61, in_ite, l3, l10, l60, l6, l40, l100000, l4, l20, l12, c_1, c_2, c_3, c_4, eq_self, if_true, if_false, not_false_eq_true, not_true_eq_false]; done) | (simp [guestP, e61, in_ite, l3, l10, l60, l6, l40, l100000, l4, l20, l12, c_1, c_2, c_3, c_4, eq_self, if_true, if_false, not_false_eq_true, not_true_eq_false]; done), by first | (simp only [guestP, e61, in_ite, l3, l10, l60, l6, l40, l100000, l4, l20, l12, c_1, c_2, c_3, c_4, eq_self, if_true, if_false, not_false_eq_true, not_true_eq_false]; done) | (simp [guestP, e61, in_ite, l3, l10, l60, l6, l40, l100000, l4, l20, l12, c_1, c_2, c_3, c_4, eq_self, if_true, if_false, not_false_eq_true, not_true_eq_false]; done)⟩) dX8_guest_45
      ·
        refine lv_bipush (v := (-2)) hx hb dX8_guest_31 (by decide) ?_
        exact hret (-2) T _ _ _ _ _ hW rfl rfl (by exact ⟨by first | (simp only [guestP, in_ite, l3, l10, l60, l6, l40, l100000, l4, l20, l12, c_1, c_2, c_3, eq_self, if_true, if_false, not_false_eq_true, not_true_eq_false]; done) | (simp [guestP, in_ite, l3, l10, l60, l6, l40, l100000, l4, l20, l12, c_1, c_2, c_3, eq_self, if_true, if_false, not_false_eq_true, not_true_eq_false]; done), by first | (simp only [guestP, in_ite, l3, l10, l60, l6, l40, l100000, l4, l20, l12, c_1, c_2, c_3, eq_self, if_true, if_false, not_false_eq_true, not_true_eq_false]; done) | (simp [guestP, in_ite, l3, l10, l60, l6, l40, l100000, l4, l20, l12, c_1, c_2, c_3, eq_self, if_true, if_false, not_false_eq_true, not_true_eq_false]; done)⟩) dX8_guest_33
theorem state_row {g : Nat → Int32} (h : g 6 = 0 ∨ g 6 = 1) : ∀ w, w < 5 → g (2 + w) = stateS g (nI w) := by
  intro w hw
  unfold stateS
  rcases (show w = 0 ∨ w = 1 ∨ w = 2 ∨ w = 3 ∨ w = 4 by omega) with rfl | rfl | rfl | rfl | rfl
  · rw [if_pos (by decide)]
  · rw [if_neg (by decide), if_pos (by decide)]
  · rw [if_neg (by decide), if_neg (by decide), if_pos (by decide)]
  · rw [if_neg (by decide), if_neg (by decide), if_neg (by decide), if_pos (by decide)]
  · rw [if_neg (by decide), if_neg (by decide), if_neg (by decide), if_neg (by decide)]
    show g 6 = _
    rcases h with e | e
    · rw [if_pos e, e]
    · rw [if_neg (by rw [e]; decide), e]
theorem set_row {g : Nat → Int32} {v : Int32} : ∀ w, w < 5 → (w = 4 → v = 0 ∨ v = 1) → upd g (2 + w) v = setR g (nI w) v := by
  intro w hw hv
  unfold setR
  rcases (show w = 0 ∨ w = 1 ∨ w = 2 ∨ w = 3 ∨ w = 4 by omega) with rfl | rfl | rfl | rfl | rfl
  · rw [if_pos (by decide)]
  · rw [if_neg (by decide), if_pos (by decide)]
  · rw [if_neg (by decide), if_neg (by decide), if_pos (by decide)]
  · rw [if_neg (by decide), if_neg (by decide), if_neg (by decide), if_pos (by decide)]
  · rw [if_neg (by decide), if_neg (by decide), if_neg (by decide), if_neg (by decide)]
    rcases hv rfl with rfl | rfl
    · rfl
    · rfl
theorem bit_flip (x a : Int32) : 1 - bitS x a = if holdS x a = 0 then 1 else 0 := by
  unfold holdS
  rcases bit_0 (x := x) (a := a) with e | e <;> rw [e] <;> decide
theorem most_m {w L : Int32} (h : (w = 0 ∧ L = 1023) ∨ (¬ w = 0 ∧ w = 4 ∧ L = 1) ∨ (¬ w = 0 ∧ ¬ w = 4 ∧ L = 99)) : mostP w = L := by
  unfold mostP
  rcases h with ⟨h, rfl⟩ | ⟨h, h2, rfl⟩ | ⟨h, h2, rfl⟩
  · rw [if_pos h]
  · rw [if_neg h, if_pos h2]
  · rw [if_neg h, if_neg h2]
theorem put_0 {T : Tb} {p w v : Int32} (h : oneP T p = 0) : putP T p w v = (-5, T) := if_pos h
theorem put_7 {T : Tb} {p w v : Int32} (h : ¬ oneP T p = 0) (h2 : inP w 0 4 = 0 ∨ inP v 0 (mostP w) = 0) : putP T p w v = (-7, T) := by
  unfold putP
  rw [if_neg h]
  simp only [in_ite]
  by_cases h4 : inP w 0 4 = 0
  · rw [if_pos h4]
  · rw [if_neg h4, if_pos (h2.resolve_left h4)]
theorem put_y {T : Tb} {p w v : Int32} (h : ¬ oneP T p = 0) (h2 : ¬ inP w 0 4 = 0) (h3 : ¬ inP v 0 (mostP w) = 0) : putP T p w v = (stateS (T (iN p)) w, va_up T (iN p) (setR (T (iN p)) w v)) := by
  unfold putP
  rw [if_neg h]
  simp only [in_ite]
  rw [if_neg h2, if_neg h3]
theorem one_two {v : Int32} (h0 : ¬ v < 0) (h1 : ¬ 1 < v) : v = 0 ∨ v = 1 := by
  obtain ⟨j, hj, rfl⟩ := nI_of h0
  have := mi_nlt (a := 1) h1 (by decide) hj
  rcases (show j = 0 ∨ j = 1 by omega) with rfl | rfl
  · exact Or.inl rfl
  · exact Or.inr rfl
abbrev rm_yX8_put : Room := { frames := 2, cells := 0, slots := 0, locals := 43 }
set_option maxHeartbeats 800000 in
set_option maxRecDepth 100000 in
theorem kX8_put {l : Launch} {D : va_G} {cA : ClassId} {ad : Nat → Nat} {ρ T σ : Nat → Nat → Int32} {sz : Nat} {n : Nat} {pp w v : Int32} (hT : okT n T) : MMi l yX8_put cX8_put 6 FieldType.int rm_yX8_put [.ref (ad 0), .int pp, .int w, .int v] D cA ad ρ T σ sz (fun (r : Int32) (u : Tb) => r = (putP T pp w v).1 ∧ u = (putP T pp w v).2) (fun u : Tb => ment ad cA ρ u σ) := by
  refine gw_stI (Ff := fun u : Tb => ment ad cA ρ u σ) (own := RX8) (by decide +kernel) rfl (Nat.le_of_ble_eq_true rfl) ?_
  intro p e s m ar below meth c A Q F hE hsz hW hret ls hl
  obtain ⟨hx, hb, hml, hown, hts⟩ := id F
  have hl : lv_has ls 6 [(0, .ref (ad 0)), (1, .int pp), (2, .int w), (3, .int v)] := hl
  have hs6 := hT.1
  have hsN := hT.2.1
  refine lv_aload_n hx hb dX8_put_0 rfl (lv_at hl 0 rfl) ?_
  refine lv_iload_n hx hb dX8_put_1 rfl (lv_at hl 1 rfl) ?_
  refine gw_callVi (As := [.int pp]) (rest := []) F hl.1 hW (fun _ _ _ => trivial) gw_T_E (by decide) (rfl : ment ad cA _ _ _ 0 = _) rfl (kX8_isOne (n := n) hT) pd_yX8_isOne ml_RX8_161 im_yX8_isOne se_yX8_isOne ini_RX8 cd_yX8_isOne ⟨rfl, rfl⟩ ⟨Nat.le_of_ble_eq_true rfl, Nat.le_of_ble_eq_true rfl⟩ rfl rfl (Nat.le_of_ble_eq_true rfl) ⟨Nat.zero_le _, Nat.zero_le _⟩ dX8_put_2 (fun r u H locs hp hW _ _ => ?_)
  subst hp
  refine lv_as (z := oneP T pp) rfl ?_
  refine lv_if_ne (tgt := 11) hx hb dX8_put_5 (by decide) (fun c_1 => ?_) (fun c_1 => ?_)
  ·
    obtain ⟨q, hq, rfl⟩ := one_nat hT c_1; have hq6 : q < 6 := seats_le hT hq; have hiq : iN (nI q) = q := iN_nI (by omega); have hGq := hT.2.2.2.2 q hq
    refine lv_iload_n hx hb dX8_put_11 rfl (lv_at hl 2 rfl) ?_
    refine lv_if_ne (tgt := 21) hx hb dX8_put_12 (by decide) (fun c_2 => ?_) (fun c_2 => ?_)
    ·
      refine lv_iload_n hx hb dX8_put_21 rfl (lv_at hl 2 rfl) ?_
      refine lv_iconst (v := 4) hx hb dX8_put_22 (by decide) ?_
      refine lv_icmp_ne (tgt := 30) hx hb dX8_put_23 (by decide) (fun c_3 => ?_) (fun c_3 => ?_)
      ·
        refine lv_bipush (v := 99) hx hb dX8_put_30 (by decide) ?_
        have hmo : mostP w = 99 := most_m (Or.inr (Or.inr ⟨c_2, c_3, rfl⟩))
        refine lv_istore (lv' := [(4, .int 99), (0, .ref (ad 0)), (1, .int (nI q)), (2, .int w), (3, .int v)]) hx hb dX8_put_32 hl (by decide) rfl (fun ls hl => ?_)
        refine lv_iload_n hx hb dX8_put_34 rfl (lv_at hl 3 rfl) ?_
        refine lv_iconst (v := 0) hx hb dX8_put_35 (by decide) ?_
        refine lv_iconst (v := 4) hx hb dX8_put_36 (by decide) ?_
        refine gw_callP (As := [.int w, .int 0, .int 4]) (rest := []) F hl.1 (kX8_in) pd_yX8_in ml_RX8_72 st_yX8_in ini_RX8 cd_yX8_in ⟨rfl, rfl⟩ ⟨Nat.le_of_ble_eq_true rfl, Nat.le_of_ble_eq_true rfl⟩ rfl rfl (Nat.le_of_ble_eq_true rfl) ⟨Nat.zero_le _, Nat.zero_le _⟩ dX8_put_37 ?_
        refine lv_as (z := inP w 0 4) rfl ?_
        refine lv_if_eq (tgt := 53) hx hb dX8_put_40 (by decide) (fun c_4 => ?_) (fun c_4 => ?_)
        ·
          refine lv_bipush (v := (-7)) hx hb dX8_put_53 (by decide) ?_
          exact hret (-7) T _ _ _ _ _ hW rfl rfl (by rw [put_7 c_1 (Or.inl c_4)]; exact ⟨rfl, rfl⟩) dX8_put_55
        ·
          obtain ⟨j, hj, rfl⟩ := in_nat (k := 4) (by decide) c_4
          refine lv_iload_n hx hb dX8_put_43 rfl (lv_at hl 4 rfl) ?_
          refine lv_iconst (v := 0) hx hb dX8_put_44 (by decide) ?_
          refine lv_iload hx hb dX8_put_45 (lv_at hl 0 rfl) ?_
          refine gw_callP (As := [.int v, .int 0, .int 99]) (rest := []) F hl.1 (kX8_in) pd_yX8_in ml_RX8_72 st_yX8_in ini_RX8 cd_yX8_in ⟨rfl, rfl⟩ ⟨Nat.le_of_ble_eq_true rfl, Nat.le_of_ble_eq_true rfl⟩ rfl rfl (Nat.le_of_ble_eq_true rfl) ⟨Nat.zero_le _, Nat.zero_le _⟩ dX8_put_47 ?_
          refine lv_as (z := inP v 0 99) rfl ?_
          refine lv_if_ne (tgt := 56) hx hb dX8_put_50 (by decide) (fun c_5 => ?_) (fun c_5 => ?_)
          ·
            refine lv_aload_n hx hb dX8_put_56 rfl (lv_at hl 1 rfl) ?_
            refine mr_f F hW 3 (by decide) rfl fl_RX8_16 dX8_put_57 ?_
            refine lv_iconst (v := 5) hx hb dX8_put_60 (by decide) ?_
            refine lv_iload_n hx hb dX8_put_61 rfl (lv_at hl 2 rfl) ?_
            refine lv_imul hx hb dX8_put_62 ?_
            refine lv_iload_n hx hb dX8_put_63 rfl (lv_at hl 3 rfl) ?_
            refine lv_iadd hx hb dX8_put_64 ?_
            refine mr_rows q j (by omega) (by omega) (mi_5k q j) F hW dX8_put_65 ?_
            refine lv_istore (lv' := [(5, .int (T q (2 + j))), (4, .int 99), (0, .ref (ad 0)), (1, .int (nI q)), (2, .int (nI j)), (3, .int v)]) hx hb dX8_put_66 hl (by decide) rfl (fun ls hl => ?_)
            refine lv_aload_n hx hb dX8_put_68 rfl (lv_at hl 2 rfl) ?_
            refine mr_f F hW 3 (by decide) rfl fl_RX8_16 dX8_put_69 ?_
            refine lv_iconst (v := 5) hx hb dX8_put_72 (by decide) ?_
            refine lv_iload_n hx hb dX8_put_73 rfl (lv_at hl 3 rfl) ?_
            refine lv_imul hx hb dX8_put_74 ?_
            refine lv_iload_n hx hb dX8_put_75 rfl (lv_at hl 4 rfl) ?_
            refine lv_iadd hx hb dX8_put_76 ?_
            refine lv_iload_n hx hb dX8_put_77 rfl (lv_at hl 5 rfl) ?_
            refine mw_rows q j (by omega) (by omega) (mi_5k q j) F hW dX8_put_78 (fun H locs hW => ?_)
            refine lv_iload hx hb dX8_put_79 (lv_at hl 0 rfl) ?_
            exact hret (T q (2 + j)) (upT T q (2 + j) v) _ _ _ _ _ hW rfl rfl (by rw [put_y c_1 c_4 (by rw [hmo]; exact c_5), hiq]; exact ⟨state_row hGq.2.2.2.2.2.2 j (by omega), by show va_up T q (upd (T q) (2 + j) v) = _; rw [set_row j (by omega) (fun e => by subst e; have hb := in_y c_5; rw [show (99 : Int32) = 1 from hmo.symm.trans (by decide)] at hb; exact one_two hb.1 hb.2)]⟩) dX8_put_81
          ·
            refine lv_bipush (v := (-7)) hx hb dX8_put_53 (by decide) ?_
            exact hret (-7) T _ _ _ _ _ hW rfl rfl (by rw [put_7 c_1 (Or.inr (by rw [hmo]; exact c_5))]; exact ⟨rfl, rfl⟩) dX8_put_55
      ·
        refine lv_iconst (v := 1) hx hb dX8_put_26 (by decide) ?_
        refine lv_goto (tgt := 32) hx hb dX8_put_27 (by decide) ?_
        have hmo : mostP w = 1 := most_m (Or.inr (Or.inl ⟨c_2, c_3, rfl⟩))
        refine lv_istore (lv' := [(4, .int 1), (0, .ref (ad 0)), (1, .int (nI q)), (2, .int w), (3, .int v)]) hx hb dX8_put_32 hl (by decide) rfl (fun ls hl => ?_)
        refine lv_iload_n hx hb dX8_put_34 rfl (lv_at hl 3 rfl) ?_
        refine lv_iconst (v := 0) hx hb dX8_put_35 (by decide) ?_
        refine lv_iconst (v := 4) hx hb dX8_put_36 (by decide) ?_
        refine gw_callP (As := [.int w, .int 0, .int 4]) (rest := []) F hl.1 (kX8_in) pd_yX8_in ml_RX8_72 st_yX8_in ini_RX8 cd_yX8_in ⟨rfl, rfl⟩ ⟨Nat.le_of_ble_eq_true rfl, Nat.le_of_ble_eq_true rfl⟩ rfl rfl (Nat.le_of_ble_eq_true rfl) ⟨Nat.zero_le _, Nat.zero_le _⟩ dX8_put_37 ?_
        refine lv_as (z := inP w 0 4) rfl ?_
        refine lv_if_eq (tgt := 53) hx hb dX8_put_40 (by decide) (fun c_6 => ?_) (fun c_6 => ?_)
        ·
          refine lv_bipush (v := (-7)) hx hb dX8_put_53 (by decide) ?_
          exact hret (-7) T _ _ _ _ _ hW rfl rfl (by rw [put_7 c_1 (Or.inl c_6)]; exact ⟨rfl, rfl⟩) dX8_put_55
        ·
          obtain ⟨j, hj, rfl⟩ := in_nat (k := 4) (by decide) c_6
          refine lv_iload_n hx hb dX8_put_43 rfl (lv_at hl 4 rfl) ?_
          refine lv_iconst (v := 0) hx hb dX8_put_44 (by decide) ?_
          refine lv_iload hx hb dX8_put_45 (lv_at hl 0 rfl) ?_
          refine gw_callP (As := [.int v, .int 0, .int 1]) (rest := []) F hl.1 (kX8_in) pd_yX8_in ml_RX8_72 st_yX8_in ini_RX8 cd_yX8_in ⟨rfl, rfl⟩ ⟨Nat.le_of_ble_eq_true rfl, Nat.le_of_ble_eq_true rfl⟩ rfl rfl (Nat.le_of_ble_eq_true rfl) ⟨Nat.zero_le _, Nat.zero_le _⟩ dX8_put_47 ?_
          refine lv_as (z := inP v 0 1) rfl ?_
          refine lv_if_ne (tgt := 56) hx hb dX8_put_50 (by decide) (fun c_7 => ?_) (fun c_7 => ?_)
          ·
            refine lv_aload_n hx hb dX8_put_56 rfl (lv_at hl 1 rfl) ?_
            refine mr_f F hW 3 (by decide) rfl fl_RX8_16 dX8_put_57 ?_
            refine lv_iconst (v := 5) hx hb dX8_put_60 (by decide) ?_
            refine lv_iload_n hx hb dX8_put_61 rfl (lv_at hl 2 rfl) ?_
            refine lv_imul hx hb dX8_put_62 ?_
            refine lv_iload_n hx hb dX8_put_63 rfl (lv_at hl 3 rfl) ?_
            refine lv_iadd hx hb dX8_put_64 ?_
            refine mr_rows q j (by omega) (by omega) (mi_5k q j) F hW dX8_put_65 ?_
            refine lv_istore (lv' := [(5, .int (T q (2 + j))), (4, .int 1), (0, .ref (ad 0)), (1, .int (nI q)), (2, .int (nI j)), (3, .int v)]) hx hb dX8_put_66 hl (by decide) rfl (fun ls hl => ?_)
            refine lv_aload_n hx hb dX8_put_68 rfl (lv_at hl 2 rfl) ?_
            refine mr_f F hW 3 (by decide) rfl fl_RX8_16 dX8_put_69 ?_
            refine lv_iconst (v := 5) hx hb dX8_put_72 (by decide) ?_
            refine lv_iload_n hx hb dX8_put_73 rfl (lv_at hl 3 rfl) ?_
            refine lv_imul hx hb dX8_put_74 ?_
            refine lv_iload_n hx hb dX8_put_75 rfl (lv_at hl 4 rfl) ?_
            refine lv_iadd hx hb dX8_put_76 ?_
            refine lv_iload_n hx hb dX8_put_77 rfl (lv_at hl 5 rfl) ?_
            refine mw_rows q j (by omega) (by omega) (mi_5k q j) F hW dX8_put_78 (fun H locs hW => ?_)
            refine lv_iload hx hb dX8_put_79 (lv_at hl 0 rfl) ?_
            exact hret (T q (2 + j)) (upT T q (2 + j) v) _ _ _ _ _ hW rfl rfl (by rw [put_y c_1 c_6 (by rw [hmo]; exact c_7), hiq]; exact ⟨state_row hGq.2.2.2.2.2.2 j (by omega), by show va_up T q (upd (T q) (2 + j) v) = _; rw [set_row j (by omega) (fun e => by subst e; have hb := in_y c_7; rw [show (1 : Int32) = 1 from hmo.symm.trans (by decide)] at hb; exact one_two hb.1 hb.2)]⟩) dX8_put_81
          ·
            refine lv_bipush (v := (-7)) hx hb dX8_put_53 (by decide) ?_
            exact hret (-7) T _ _ _ _ _ hW rfl rfl (by rw [put_7 c_1 (Or.inr (by rw [hmo]; exact c_7))]; exact ⟨rfl, rfl⟩) dX8_put_55
    ·
      refine lv_sipush (v := 1023) hx hb dX8_put_15 (by decide) ?_
      refine lv_goto (tgt := 32) hx hb dX8_put_18 (by decide) ?_
      have hmo : mostP w = 1023 := most_m (Or.inl ⟨c_2, rfl⟩)
      refine lv_istore (lv' := [(4, .int 1023), (0, .ref (ad 0)), (1, .int (nI q)), (2, .int w), (3, .int v)]) hx hb dX8_put_32 hl (by decide) rfl (fun ls hl => ?_)
      refine lv_iload_n hx hb dX8_put_34 rfl (lv_at hl 3 rfl) ?_
      refine lv_iconst (v := 0) hx hb dX8_put_35 (by decide) ?_
      refine lv_iconst (v := 4) hx hb dX8_put_36 (by decide) ?_
      refine gw_callP (As := [.int w, .int 0, .int 4]) (rest := []) F hl.1 (kX8_in) pd_yX8_in ml_RX8_72 st_yX8_in ini_RX8 cd_yX8_in ⟨rfl, rfl⟩ ⟨Nat.le_of_ble_eq_true rfl, Nat.le_of_ble_eq_true rfl⟩ rfl rfl (Nat.le_of_ble_eq_true rfl) ⟨Nat.zero_le _, Nat.zero_le _⟩ dX8_put_37 ?_
      refine lv_as (z := inP w 0 4) rfl ?_
      refine lv_if_eq (tgt := 53) hx hb dX8_put_40 (by decide) (fun c_8 => ?_) (fun c_8 => ?_)
      ·
        refine lv_bipush (v := (-7)) hx hb dX8_put_53 (by decide) ?_
        exact hret (-7) T _ _ _ _ _ hW rfl rfl (by rw [put_7 c_1 (Or.inl c_8)]; exact ⟨rfl, rfl⟩) dX8_put_55
      ·
        obtain ⟨j, hj, rfl⟩ := in_nat (k := 4) (by decide) c_8
        refine lv_iload_n hx hb dX8_put_43 rfl (lv_at hl 4 rfl) ?_
        refine lv_iconst (v := 0) hx hb dX8_put_44 (by decide) ?_
        refine lv_iload hx hb dX8_put_45 (lv_at hl 0 rfl) ?_
        refine gw_callP (As := [.int v, .int 0, .int 1023]) (rest := []) F hl.1 (kX8_in) pd_yX8_in ml_RX8_72 st_yX8_in ini_RX8 cd_yX8_in ⟨rfl, rfl⟩ ⟨Nat.le_of_ble_eq_true rfl, Nat.le_of_ble_eq_true rfl⟩ rfl rfl (Nat.le_of_ble_eq_true rfl) ⟨Nat.zero_le _, Nat.zero_le _⟩ dX8_put_47 ?_
        refine lv_as (z := inP v 0 1023) rfl ?_
        refine lv_if_ne (tgt := 56) hx hb dX8_put_50 (by decide) (fun c_9 => ?_) (fun c_9 => ?_)
        ·
          refine lv_aload_n hx hb dX8_put_56 rfl (lv_at hl 1 rfl) ?_
          refine mr_f F hW 3 (by decide) rfl fl_RX8_16 dX8_put_57 ?_
          refine lv_iconst (v := 5) hx hb dX8_put_60 (by decide) ?_
          refine lv_iload_n hx hb dX8_put_61 rfl (lv_at hl 2 rfl) ?_
          refine lv_imul hx hb dX8_put_62 ?_
          refine lv_iload_n hx hb dX8_put_63 rfl (lv_at hl 3 rfl) ?_
          refine lv_iadd hx hb dX8_put_64 ?_
          refine mr_rows q j (by omega) (by omega) (mi_5k q j) F hW dX8_put_65 ?_
          refine lv_istore (lv' := [(5, .int (T q (2 + j))), (4, .int 1023), (0, .ref (ad 0)), (1, .int (nI q)), (2, .int (nI j)), (3, .int v)]) hx hb dX8_put_66 hl (by decide) rfl (fun ls hl => ?_)
          refine lv_aload_n hx hb dX8_put_68 rfl (lv_at hl 2 rfl) ?_
          refine mr_f F hW 3 (by decide) rfl fl_RX8_16 dX8_put_69 ?_
          refine lv_iconst (v := 5) hx hb dX8_put_72 (by decide) ?_
          refine lv_iload_n hx hb dX8_put_73 rfl (lv_at hl 3 rfl) ?_
          refine lv_imul hx hb dX8_put_74 ?_
          refine lv_iload_n hx hb dX8_put_75 rfl (lv_at hl 4 rfl) ?_
          refine lv_iadd hx hb dX8_put_76 ?_
          refine lv_iload_n hx hb dX8_put_77 rfl (lv_at hl 5 rfl) ?_
          refine mw_rows q j (by omega) (by omega) (mi_5k q j) F hW dX8_put_78 (fun H locs hW => ?_)
          refine lv_iload hx hb dX8_put_79 (lv_at hl 0 rfl) ?_
          exact hret (T q (2 + j)) (upT T q (2 + j) v) _ _ _ _ _ hW rfl rfl (by rw [put_y c_1 c_8 (by rw [hmo]; exact c_9), hiq]; exact ⟨state_row hGq.2.2.2.2.2.2 j (by omega), by show va_up T q (upd (T q) (2 + j) v) = _; rw [set_row j (by omega) (fun e => by subst e; have hb := in_y c_9; rw [show (1023 : Int32) = 1 from hmo.symm.trans (by decide)] at hb; exact one_two hb.1 hb.2)]⟩) dX8_put_81
        ·
          refine lv_bipush (v := (-7)) hx hb dX8_put_53 (by decide) ?_
          exact hret (-7) T _ _ _ _ _ hW rfl rfl (by rw [put_7 c_1 (Or.inr (by rw [hmo]; exact c_9))]; exact ⟨rfl, rfl⟩) dX8_put_55
  ·
    refine lv_bipush (v := (-5)) hx hb dX8_put_8 (by decide) ?_
    exact hret (-5) T _ _ _ _ _ hW rfl rfl (by rw [put_0 c_1]; exact ⟨rfl, rfl⟩) dX8_put_10
abbrev rm_yX8_told : Room := { frames := 6, cells := 0, slots := 0, locals := 138 }
set_option maxHeartbeats 800000 in
set_option maxRecDepth 100000 in
theorem kX8_told {l : Launch} {D : va_G} {cA : ClassId} {ad : Nat → Nat} {ρ T σ : Nat → Nat → Int32} {sz : Nat} {n : Nat} {Lx : Lw} {pp w : Int32} (hT : okT n T) (hM : okML n σ Lx) : MMi l yX8_told cX8_told 3 FieldType.int rm_yX8_told [.ref (ad 0), .int pp, .int w] D cA ad ρ T σ sz (fun (r : Int32) (u : Nat → Nat → Int32) => r = toldP Lx T pp w ∧ Kp ρ u) (fun u : Nat → Nat → Int32 => ment ad cA u T σ) := by
  refine gw_stI (Ff := fun u : Nat → Nat → Int32 => ment ad cA u T σ) (own := RX8) (by decide +kernel) rfl (Nat.le_of_ble_eq_true rfl) ?_
  intro p e s m ar below meth c A Q F hE hsz hW hret ls hl
  obtain ⟨hx, hb, hml, hown, hts⟩ := id F
  have hl : lv_has ls 3 [(0, .ref (ad 0)), (1, .int pp), (2, .int w)] := hl
  have hs6 := hT.1
  have hsN := hT.2.1
  refine lv_aload_n hx hb dX8_told_0 rfl (lv_at hl 0 rfl) ?_
  refine lv_iload_n hx hb dX8_told_1 rfl (lv_at hl 1 rfl) ?_
  refine gw_callVi (As := [.int pp]) (rest := []) F hl.1 hW (fun _ _ _ => trivial) gw_T_E (by decide) (rfl : ment ad cA _ _ _ 0 = _) rfl (kX8_isOne (n := n) hT) pd_yX8_isOne ml_RX8_161 im_yX8_isOne se_yX8_isOne ini_RX8 cd_yX8_isOne ⟨rfl, rfl⟩ ⟨Nat.le_of_ble_eq_true rfl, Nat.le_of_ble_eq_true rfl⟩ rfl rfl (Nat.le_of_ble_eq_true rfl) ⟨Nat.zero_le _, Nat.zero_le _⟩ dX8_told_2 (fun r u H locs hp hW _ _ => ?_)
  subst hp
  refine lv_as (z := oneP T pp) rfl ?_
  refine lv_if_ne (tgt := 11) hx hb dX8_told_5 (by decide) (fun c_1 => ?_) (fun c_1 => ?_)
  ·
    obtain ⟨q, hq, rfl⟩ := one_nat hT c_1; have hq6 : q < 6 := seats_le hT hq; have hiq : iN (nI q) = q := iN_nI (by omega); have hGq := hT.2.2.2.2 q hq
    refine lv_iload_n hx hb dX8_told_11 rfl (lv_at hl 2 rfl) ?_
    by_cases c_2 : w = 0
    ·
      refine lv_tableIn (off := 56) (tgt := 68) hx hb dX8_told_12 (by rw [c_2]; decide) (by rw [c_2]; decide) (by rw [c_2]; rfl) (by decide) ?_
      refine lv_aload_n hx hb dX8_told_68 rfl (lv_at hl 0 rfl) ?_
      refine mr_f F hW 3 (by decide) rfl fl_RX8_16 dX8_told_69 ?_
      refine lv_iconst (v := 5) hx hb dX8_told_72 (by decide) ?_
      refine lv_iload_n hx hb dX8_told_73 rfl (lv_at hl 1 rfl) ?_
      refine lv_imul hx hb dX8_told_74 ?_
      refine lv_iload_n hx hb dX8_told_75 rfl (lv_at hl 2 rfl) ?_
      refine lv_as (z := 0) c_2 ?_
      refine lv_iadd hx hb dX8_told_76 ?_
      refine mr_rows q 0 (by omega) (by decide) (mi_5k q 0) F hW dX8_told_77 ?_
      exact hret (T q 2) ρ _ _ _ _ _ hW rfl rfl (by exact ⟨by unfold toldP; rw [if_neg c_1, hiq, if_pos c_2, c_2]; exact state_row hGq.2.2.2.2.2.2 0 (by decide), Kp.rf⟩) dX8_told_78
    ·
      by_cases c_3 : w = 1
      ·
        refine lv_tableIn (off := 56) (tgt := 68) hx hb dX8_told_12 (by rw [c_3]; decide) (by rw [c_3]; decide) (by rw [c_3]; rfl) (by decide) ?_
        refine lv_aload_n hx hb dX8_told_68 rfl (lv_at hl 0 rfl) ?_
        refine mr_f F hW 3 (by decide) rfl fl_RX8_16 dX8_told_69 ?_
        refine lv_iconst (v := 5) hx hb dX8_told_72 (by decide) ?_
        refine lv_iload_n hx hb dX8_told_73 rfl (lv_at hl 1 rfl) ?_
        refine lv_imul hx hb dX8_told_74 ?_
        refine lv_iload_n hx hb dX8_told_75 rfl (lv_at hl 2 rfl) ?_
        refine lv_as (z := 1) c_3 ?_
        refine lv_iadd hx hb dX8_told_76 ?_
        refine mr_rows q 1 (by omega) (by decide) (mi_5k q 1) F hW dX8_told_77 ?_
        exact hret (T q 3) ρ _ _ _ _ _ hW rfl rfl (by exact ⟨by unfold toldP; rw [if_neg c_1, hiq, if_neg c_2, if_pos c_3, c_3]; exact state_row hGq.2.2.2.2.2.2 1 (by decide), Kp.rf⟩) dX8_told_78
      ·
        by_cases c_4 : w = 2
        ·
          refine lv_tableIn (off := 56) (tgt := 68) hx hb dX8_told_12 (by rw [c_4]; decide) (by rw [c_4]; decide) (by rw [c_4]; rfl) (by decide) ?_
          refine lv_aload_n hx hb dX8_told_68 rfl (lv_at hl 0 rfl) ?_
          refine mr_f F hW 3 (by decide) rfl fl_RX8_16 dX8_told_69 ?_
          refine lv_iconst (v := 5) hx hb dX8_told_72 (by decide) ?_
          refine lv_iload_n hx hb dX8_told_73 rfl (lv_at hl 1 rfl) ?_
          refine lv_imul hx hb dX8_told_74 ?_
          refine lv_iload_n hx hb dX8_told_75 rfl (lv_at hl 2 rfl) ?_
          refine lv_as (z := 2) c_4 ?_
          refine lv_iadd hx hb dX8_told_76 ?_
          refine mr_rows q 2 (by omega) (by decide) (mi_5k q 2) F hW dX8_told_77 ?_
          exact hret (T q 4) ρ _ _ _ _ _ hW rfl rfl (by exact ⟨by unfold toldP; rw [if_neg c_1, hiq, if_neg c_2, if_neg c_3, if_pos c_4, c_4]; exact state_row hGq.2.2.2.2.2.2 2 (by decide), Kp.rf⟩) dX8_told_78
        ·
          by_cases c_5 : w = 3
          ·
            refine lv_tableIn (off := 56) (tgt := 68) hx hb dX8_told_12 (by rw [c_5]; decide) (by rw [c_5]; decide) (by rw [c_5]; rfl) (by decide) ?_
            refine lv_aload_n hx hb dX8_told_68 rfl (lv_at hl 0 rfl) ?_
            refine mr_f F hW 3 (by decide) rfl fl_RX8_16 dX8_told_69 ?_
            refine lv_iconst (v := 5) hx hb dX8_told_72 (by decide) ?_
            refine lv_iload_n hx hb dX8_told_73 rfl (lv_at hl 1 rfl) ?_
            refine lv_imul hx hb dX8_told_74 ?_
            refine lv_iload_n hx hb dX8_told_75 rfl (lv_at hl 2 rfl) ?_
            refine lv_as (z := 3) c_5 ?_
            refine lv_iadd hx hb dX8_told_76 ?_
            refine mr_rows q 3 (by omega) (by decide) (mi_5k q 3) F hW dX8_told_77 ?_
            exact hret (T q 5) ρ _ _ _ _ _ hW rfl rfl (by exact ⟨by unfold toldP; rw [if_neg c_1, hiq, if_neg c_2, if_neg c_3, if_neg c_4, if_pos c_5, c_5]; exact state_row hGq.2.2.2.2.2.2 3 (by decide), Kp.rf⟩) dX8_told_78
          ·
            by_cases c_6 : w = 4
            ·
              refine lv_tableIn (off := 56) (tgt := 68) hx hb dX8_told_12 (by rw [c_6]; decide) (by rw [c_6]; decide) (by rw [c_6]; rfl) (by decide) ?_
              refine lv_aload_n hx hb dX8_told_68 rfl (lv_at hl 0 rfl) ?_
              refine mr_f F hW 3 (by decide) rfl fl_RX8_16 dX8_told_69 ?_
              refine lv_iconst (v := 5) hx hb dX8_told_72 (by decide) ?_
              refine lv_iload_n hx hb dX8_told_73 rfl (lv_at hl 1 rfl) ?_
              refine lv_imul hx hb dX8_told_74 ?_
              refine lv_iload_n hx hb dX8_told_75 rfl (lv_at hl 2 rfl) ?_
              refine lv_as (z := 4) c_6 ?_
              refine lv_iadd hx hb dX8_told_76 ?_
              refine mr_rows q 4 (by omega) (by decide) (mi_5k q 4) F hW dX8_told_77 ?_
              exact hret (T q 6) ρ _ _ _ _ _ hW rfl rfl (by exact ⟨by unfold toldP; rw [if_neg c_1, hiq, if_neg c_2, if_neg c_3, if_neg c_4, if_neg c_5, if_pos c_6, c_6]; exact state_row hGq.2.2.2.2.2.2 4 (by decide), Kp.rf⟩) dX8_told_78
            ·
              by_cases c_7 : w = 5
              ·
                refine lv_tableIn (off := 67) (tgt := 79) hx hb dX8_told_12 (by rw [c_7]; decide) (by rw [c_7]; decide) (by rw [c_7]; rfl) (by decide) ?_
                refine lv_aload_n hx hb dX8_told_79 rfl (lv_at hl 0 rfl) ?_
                refine mr_f F hW 1 (by decide) rfl fl_RX8_7 dX8_told_80 ?_
                refine lv_iload_n hx hb dX8_told_83 rfl (lv_at hl 1 rfl) ?_
                refine mr_kind q (by omega) rfl F hW dX8_told_84 ?_
                exact hret (T q 0) ρ _ _ _ _ _ hW rfl rfl (by exact ⟨by first | (simp only [toldP, hiq, in_ite, l3, l10, l60, l6, l40, l100000, l4, l20, l12, c_1, c_2, c_3, c_4, c_5, c_6, c_7, eq_self, if_true, if_false, not_false_eq_true, not_true_eq_false]; done) | (simp [toldP, hiq, in_ite, l3, l10, l60, l6, l40, l100000, l4, l20, l12, c_1, c_2, c_3, c_4, c_5, c_6, c_7, eq_self, if_true, if_false, not_false_eq_true, not_true_eq_false]; done), Kp.rf⟩) dX8_told_85
              ·
                by_cases c_8 : w = 6
                ·
                  refine lv_tableIn (off := 74) (tgt := 86) hx hb dX8_told_12 (by rw [c_8]; decide) (by rw [c_8]; decide) (by rw [c_8]; rfl) (by decide) ?_
                  refine lv_aload_n hx hb dX8_told_86 rfl (lv_at hl 0 rfl) ?_
                  refine mr_f F hW 2 (by decide) rfl fl_RX8_13 dX8_told_87 ?_
                  refine lv_iload_n hx hb dX8_told_90 rfl (lv_at hl 1 rfl) ?_
                  refine mr_more q (by omega) rfl F hW dX8_told_91 ?_
                  exact hret (T q 1) ρ _ _ _ _ _ hW rfl rfl (by exact ⟨by first | (simp only [toldP, hiq, in_ite, l3, l10, l60, l6, l40, l100000, l4, l20, l12, c_1, c_2, c_3, c_4, c_5, c_6, c_7, c_8, eq_self, if_true, if_false, not_false_eq_true, not_true_eq_false]; done) | (simp [toldP, hiq, in_ite, l3, l10, l60, l6, l40, l100000, l4, l20, l12, c_1, c_2, c_3, c_4, c_5, c_6, c_7, c_8, eq_self, if_true, if_false, not_false_eq_true, not_true_eq_false]; done), Kp.rf⟩) dX8_told_92
                ·
                  by_cases c_9 : w = 7
                  ·
                    refine lv_tableIn (off := 81) (tgt := 93) hx hb dX8_told_12 (by rw [c_9]; decide) (by rw [c_9]; decide) (by rw [c_9]; rfl) (by decide) ?_
                    refine lv_aload_n hx hb dX8_told_93 rfl (lv_at hl 0 rfl) ?_
                    refine lv_iload_n hx hb dX8_told_94 rfl (lv_at hl 1 rfl) ?_
                    refine gw_callVi (As := [.int (nI q)]) (rest := []) F hl.1 hW (fun _ _ _ => trivial) gw_T_E (by decide) (rfl : ment ad cA _ _ _ 0 = _) rfl (kX8_actOf (n := n) (q := q) (Lx := Lx) hT hM hq) pd_yX8_actOf ml_RX8_170 im_yX8_actOf se_yX8_actOf ini_RX8 cd_yX8_actOf ⟨rfl, rfl⟩ ⟨Nat.le_of_ble_eq_true rfl, Nat.le_of_ble_eq_true rfl⟩ rfl rfl (Nat.le_of_ble_eq_true rfl) ⟨Nat.zero_le _, Nat.zero_le _⟩ dX8_told_95 (fun r ρ_11 H locs hp hW _ _ => ?_)
                    obtain ⟨rfl, hk_10⟩ := hp
                    refine lv_as (z := actS Lx T q) rfl ?_
                    exact hret (actS Lx T q) ρ_11 _ _ _ _ _ hW rfl rfl (by exact ⟨by first | (simp only [toldP, hiq, in_ite, l3, l10, l60, l6, l40, l100000, l4, l20, l12, c_1, c_2, c_3, c_4, c_5, c_6, c_7, c_8, c_9, eq_self, if_true, if_false, not_false_eq_true, not_true_eq_false]; done) | (simp [toldP, hiq, in_ite, l3, l10, l60, l6, l40, l100000, l4, l20, l12, c_1, c_2, c_3, c_4, c_5, c_6, c_7, c_8, c_9, eq_self, if_true, if_false, not_false_eq_true, not_true_eq_false]; done), (Kp.trans Kp.rf hk_10)⟩) dX8_told_98
                  ·
                    by_cases c_12 : w = 8
                    ·
                      refine lv_tableIn (off := 87) (tgt := 99) hx hb dX8_told_12 (by rw [c_12]; decide) (by rw [c_12]; decide) (by rw [c_12]; rfl) (by decide) ?_
                      refine lv_aload_n hx hb dX8_told_99 rfl (lv_at hl 0 rfl) ?_
                      refine lv_iload_n hx hb dX8_told_100 rfl (lv_at hl 1 rfl) ?_
                      refine gw_callVi (As := [.int (nI q)]) (rest := []) F hl.1 hW (fun _ _ _ => trivial) gw_T_E (by decide) (rfl : ment ad cA _ _ _ 0 = _) rfl (kX8_isStuck (n := n) (q := q) (Lx := Lx) hT hM hq) pd_yX8_isStuck ml_RX8_173 im_yX8_isStuck se_yX8_isStuck ini_RX8 cd_yX8_isStuck ⟨rfl, rfl⟩ ⟨Nat.le_of_ble_eq_true rfl, Nat.le_of_ble_eq_true rfl⟩ rfl rfl (Nat.le_of_ble_eq_true rfl) ⟨Nat.zero_le _, Nat.zero_le _⟩ dX8_told_101 (fun r ρ_14 H locs hp hW _ _ => ?_)
                      obtain ⟨rfl, hk_13⟩ := hp
                      refine lv_as (z := stuckS Lx T q) rfl ?_
                      refine lv_if_eq (tgt := 111) hx hb dX8_told_104 (by decide) (fun c_15 => ?_) (fun c_15 => ?_)
                      ·
                        refine lv_iconst (v := 0) hx hb dX8_told_111 (by decide) ?_
                        exact hret 0 ρ_14 _ _ _ _ _ hW rfl rfl (by exact ⟨by first | (simp only [toldP, hiq, in_ite, l3, l10, l60, l6, l40, l100000, l4, l20, l12, c_1, c_2, c_3, c_4, c_5, c_6, c_7, c_8, c_9, c_12, c_15, eq_self, if_true, if_false, not_false_eq_true, not_true_eq_false]; done) | (simp [toldP, hiq, in_ite, l3, l10, l60, l6, l40, l100000, l4, l20, l12, c_1, c_2, c_3, c_4, c_5, c_6, c_7, c_8, c_9, c_12, c_15, eq_self, if_true, if_false, not_false_eq_true, not_true_eq_false]; done), (Kp.trans Kp.rf hk_13)⟩) dX8_told_112
                      ·
                        refine lv_iconst (v := 1) hx hb dX8_told_107 (by decide) ?_
                        refine lv_goto (tgt := 112) hx hb dX8_told_108 (by decide) ?_
                        exact hret 1 ρ_14 _ _ _ _ _ hW rfl rfl (by exact ⟨by first | (simp only [toldP, hiq, in_ite, l3, l10, l60, l6, l40, l100000, l4, l20, l12, c_1, c_2, c_3, c_4, c_5, c_6, c_7, c_8, c_9, c_12, c_15, eq_self, if_true, if_false, not_false_eq_true, not_true_eq_false]; done) | (simp [toldP, hiq, in_ite, l3, l10, l60, l6, l40, l100000, l4, l20, l12, c_1, c_2, c_3, c_4, c_5, c_6, c_7, c_8, c_9, c_12, c_15, eq_self, if_true, if_false, not_false_eq_true, not_true_eq_false]; done), (Kp.trans Kp.rf hk_13)⟩) dX8_told_112
                    ·
                      by_cases c_16 : w = 9
                      ·
                        refine lv_tableIn (off := 101) (tgt := 113) hx hb dX8_told_12 (by rw [c_16]; decide) (by rw [c_16]; decide) (by rw [c_16]; rfl) (by decide) ?_
                        refine lv_aload_n hx hb dX8_told_113 rfl (lv_at hl 0 rfl) ?_
                        refine lv_iload_n hx hb dX8_told_114 rfl (lv_at hl 1 rfl) ?_
                        refine gw_callVi (As := [.int (nI q)]) (rest := []) F hl.1 hW (fun _ _ _ => trivial) gw_T_E (by decide) (rfl : ment ad cA _ _ _ 0 = _) rfl (kX8_tellsOf (n := n) (q := q) (Lx := Lx) hT hM hq) pd_yX8_tellsOf ml_RX8_176 im_yX8_tellsOf se_yX8_tellsOf ini_RX8 cd_yX8_tellsOf ⟨rfl, rfl⟩ ⟨Nat.le_of_ble_eq_true rfl, Nat.le_of_ble_eq_true rfl⟩ rfl rfl (Nat.le_of_ble_eq_true rfl) ⟨Nat.zero_le _, Nat.zero_le _⟩ dX8_told_115 (fun r ρ_18 H locs hp hW _ _ => ?_)
                        obtain ⟨rfl, hk_17⟩ := hp
                        refine lv_as (z := tellS Lx T q) rfl ?_
                        exact hret (tellS Lx T q) ρ_18 _ _ _ _ _ hW rfl rfl (by exact ⟨by first | (simp only [toldP, hiq, in_ite, l3, l10, l60, l6, l40, l100000, l4, l20, l12, c_1, c_2, c_3, c_4, c_5, c_6, c_7, c_8, c_9, c_12, c_16, eq_self, if_true, if_false, not_false_eq_true, not_true_eq_false]; done) | (simp [toldP, hiq, in_ite, l3, l10, l60, l6, l40, l100000, l4, l20, l12, c_1, c_2, c_3, c_4, c_5, c_6, c_7, c_8, c_9, c_12, c_16, eq_self, if_true, if_false, not_false_eq_true, not_true_eq_false]; done), (Kp.trans Kp.rf hk_17)⟩) dX8_told_118
                      ·
                        refine lv_tableOut (tgt := 119) hx hb dX8_told_12 (tb_out10_0 c_2 c_3 c_4 c_5 c_6 c_7 c_8 c_9 c_12 c_16) (by decide) ?_
                        refine lv_bipush (v := (-7)) hx hb dX8_told_119 (by decide) ?_
                        exact hret (-7) ρ _ _ _ _ _ hW rfl rfl (by exact ⟨by first | (simp only [toldP, hiq, in_ite, l3, l10, l60, l6, l40, l100000, l4, l20, l12, c_1, c_2, c_3, c_4, c_5, c_6, c_7, c_8, c_9, c_12, c_16, eq_self, if_true, if_false, not_false_eq_true, not_true_eq_false]; done) | (simp [toldP, hiq, in_ite, l3, l10, l60, l6, l40, l100000, l4, l20, l12, c_1, c_2, c_3, c_4, c_5, c_6, c_7, c_8, c_9, c_12, c_16, eq_self, if_true, if_false, not_false_eq_true, not_true_eq_false]; done), Kp.rf⟩) dX8_told_121
  ·
    refine lv_bipush (v := (-5)) hx hb dX8_told_8 (by decide) ?_
    exact hret (-5) ρ _ _ _ _ _ hW rfl rfl (by exact ⟨by first | (simp only [toldP, in_ite, l3, l10, l60, l6, l40, l100000, l4, l20, l12, c_1, eq_self, if_true, if_false, not_false_eq_true, not_true_eq_false]; done) | (simp [toldP, in_ite, l3, l10, l60, l6, l40, l100000, l4, l20, l12, c_1, eq_self, if_true, if_false, not_false_eq_true, not_true_eq_false]; done), Kp.rf⟩) dX8_told_10
abbrev rm_yX8_manners : Room := { frames := 4, cells := 0, slots := 0, locals := 94 }
set_option maxHeartbeats 800000 in
set_option maxRecDepth 100000 in
theorem kX8_manners {l : Launch} {D : va_G} {cA : ClassId} {ad : Nat → Nat} {ρ T σ : Nat → Nat → Int32} {sz : Nat} {n : Nat} {Lx : Lw} {pp a w : Int32} (hT : okT n T) (hM : okML n σ Lx) : MMi l yX8_manners cX8_manners 4 FieldType.int rm_yX8_manners [.ref (ad 0), .int pp, .int a, .int w] D cA ad ρ T σ sz (fun (r : Int32) (u : Nat → Nat → Int32) => r = mannersP Lx T pp a w ∧ Kp ρ u) (fun u : Nat → Nat → Int32 => ment ad cA u T σ) := by
  refine gw_stI (Ff := fun u : Nat → Nat → Int32 => ment ad cA u T σ) (own := RX8) (by decide +kernel) rfl (Nat.le_of_ble_eq_true rfl) ?_
  intro p e s m ar below meth c A Q F hE hsz hW hret ls hl
  obtain ⟨hx, hb, hml, hown, hts⟩ := id F
  have hl : lv_has ls 4 [(0, .ref (ad 0)), (1, .int pp), (2, .int a), (3, .int w)] := hl
  have hs6 := hT.1
  have hsN := hT.2.1
  refine lv_aload_n hx hb dX8_manners_0 rfl (lv_at hl 0 rfl) ?_
  refine lv_iload_n hx hb dX8_manners_1 rfl (lv_at hl 1 rfl) ?_
  refine gw_callVi (As := [.int pp]) (rest := []) F hl.1 hW (fun _ _ _ => trivial) gw_T_E (by decide) (rfl : ment ad cA _ _ _ 0 = _) rfl (kX8_isOne (n := n) hT) pd_yX8_isOne ml_RX8_161 im_yX8_isOne se_yX8_isOne ini_RX8 cd_yX8_isOne ⟨rfl, rfl⟩ ⟨Nat.le_of_ble_eq_true rfl, Nat.le_of_ble_eq_true rfl⟩ rfl rfl (Nat.le_of_ble_eq_true rfl) ⟨Nat.zero_le _, Nat.zero_le _⟩ dX8_manners_2 (fun r u H locs hp hW _ _ => ?_)
  subst hp
  refine lv_as (z := oneP T pp) rfl ?_
  refine lv_if_ne (tgt := 11) hx hb dX8_manners_5 (by decide) (fun c_1 => ?_) (fun c_1 => ?_)
  ·
    obtain ⟨q, hq, rfl⟩ := one_nat hT c_1; have hq6 : q < 6 := seats_le hT hq; have hiq : iN (nI q) = q := iN_nI (by omega); have hGq := hT.2.2.2.2 q hq
    refine lv_iload_n hx hb dX8_manners_11 rfl (lv_at hl 2 rfl) ?_
    refine lv_iconst (v := 0) hx hb dX8_manners_12 (by decide) ?_
    refine lv_bipush (v := 9) hx hb dX8_manners_13 (by decide) ?_
    refine gw_callP (As := [.int a, .int 0, .int 9]) (rest := []) F hl.1 (kX8_in) pd_yX8_in ml_RX8_72 st_yX8_in ini_RX8 cd_yX8_in ⟨rfl, rfl⟩ ⟨Nat.le_of_ble_eq_true rfl, Nat.le_of_ble_eq_true rfl⟩ rfl rfl (Nat.le_of_ble_eq_true rfl) ⟨Nat.zero_le _, Nat.zero_le _⟩ dX8_manners_15 ?_
    refine lv_as (z := inP a 0 9) rfl ?_
    refine lv_if_ne (tgt := 24) hx hb dX8_manners_18 (by decide) (fun c_2 => ?_) (fun c_2 => ?_)
    ·
      refine lv_iload_n hx hb dX8_manners_24 rfl (lv_at hl 3 rfl) ?_
      refine lv_if_ne (tgt := 42) hx hb dX8_manners_25 (by decide) (fun c_3 => ?_) (fun c_3 => ?_)
      ·
        refine lv_iload_n hx hb dX8_manners_42 rfl (lv_at hl 3 rfl) ?_
        refine lv_iconst (v := 1) hx hb dX8_manners_43 (by decide) ?_
        refine lv_icmp_ne (tgt := 56) hx hb dX8_manners_44 (by decide) (fun c_4 => ?_) (fun c_4 => ?_)
        ·
          refine lv_bipush (v := (-7)) hx hb dX8_manners_56 (by decide) ?_
          exact hret (-7) ρ _ _ _ _ _ hW rfl rfl (by exact ⟨by first | (simp only [mannersP, bit_flip, show ∀ x y : Int32, 1 - (x >>> (y &&& 31) &&& 1) = if holdS x y = 0 then 1 else 0 from bit_flip, hiq, in_ite, l3, l10, l60, l6, l40, l100000, l4, l20, l12, c_1, c_2, c_3, c_4, eq_self, if_true, if_false, not_false_eq_true, not_true_eq_false]; done) | (simp [mannersP, bit_flip, show ∀ x y : Int32, 1 - (x >>> (y &&& 31) &&& 1) = if holdS x y = 0 then 1 else 0 from bit_flip, hiq, in_ite, l3, l10, l60, l6, l40, l100000, l4, l20, l12, c_1, c_2, c_3, c_4, eq_self, if_true, if_false, not_false_eq_true, not_true_eq_false]; done), Kp.rf⟩) dX8_manners_58
        ·
          refine lv_aload_n hx hb dX8_manners_47 rfl (lv_at hl 0 rfl) ?_
          refine lv_iload_n hx hb dX8_manners_48 rfl (lv_at hl 1 rfl) ?_
          refine lv_iload_n hx hb dX8_manners_49 rfl (lv_at hl 2 rfl) ?_
          refine gw_callVi (As := [.int (nI q), .int a]) (rest := []) F hl.1 hW (fun _ _ _ => trivial) gw_T_E (by decide) (rfl : ment ad cA _ _ _ 0 = _) rfl (kX8_eatsOf (n := n) (q := q) (Lx := Lx) (a0 := a) hT hM hq) pd_yX8_eatsOf ml_RX8_179 im_yX8_eatsOf se_yX8_eatsOf ini_RX8 cd_yX8_eatsOf ⟨rfl, rfl⟩ ⟨Nat.le_of_ble_eq_true rfl, Nat.le_of_ble_eq_true rfl⟩ rfl rfl (Nat.le_of_ble_eq_true rfl) ⟨Nat.zero_le _, Nat.zero_le _⟩ dX8_manners_50 (fun r ρ_6 H locs hp hW _ _ => ?_)
          obtain ⟨rfl, hk_5⟩ := hp
          refine lv_as (z := eatS Lx T q a) rfl ?_
          refine lv_goto (tgt := 58) hx hb dX8_manners_53 (by decide) ?_
          exact hret (eatS Lx T q a) ρ_6 _ _ _ _ _ hW rfl rfl (by exact ⟨by first | (simp only [mannersP, bit_flip, show ∀ x y : Int32, 1 - (x >>> (y &&& 31) &&& 1) = if holdS x y = 0 then 1 else 0 from bit_flip, hiq, in_ite, l3, l10, l60, l6, l40, l100000, l4, l20, l12, c_1, c_2, c_3, c_4, eq_self, if_true, if_false, not_false_eq_true, not_true_eq_false]; done) | (simp [mannersP, bit_flip, show ∀ x y : Int32, 1 - (x >>> (y &&& 31) &&& 1) = if holdS x y = 0 then 1 else 0 from bit_flip, hiq, in_ite, l3, l10, l60, l6, l40, l100000, l4, l20, l12, c_1, c_2, c_3, c_4, eq_self, if_true, if_false, not_false_eq_true, not_true_eq_false]; done), (Kp.trans Kp.rf hk_5)⟩) dX8_manners_58
      ·
        refine lv_iconst (v := 1) hx hb dX8_manners_28 (by decide) ?_
        refine lv_aload_n hx hb dX8_manners_29 rfl (lv_at hl 0 rfl) ?_
        refine lv_iload_n hx hb dX8_manners_30 rfl (lv_at hl 1 rfl) ?_
        refine gw_callVi (As := [.int (nI q)]) (rest := [.int 1]) F hl.1 hW (fun _ _ _ => trivial) gw_T_E (by decide) (rfl : ment ad cA _ _ _ 0 = _) rfl (kX8_mindSet (n := n) (q := q) (Lx := Lx) hT hM hq) pd_yX8_mindSet ml_RX8_167 im_yX8_mindSet se_yX8_mindSet ini_RX8 cd_yX8_mindSet ⟨rfl, rfl⟩ ⟨Nat.le_of_ble_eq_true rfl, Nat.le_of_ble_eq_true rfl⟩ rfl rfl (Nat.le_of_ble_eq_true rfl) ⟨Nat.zero_le _, Nat.zero_le _⟩ dX8_manners_31 (fun r ρ_8 H locs hp hW _ _ => ?_)
        obtain ⟨rfl, hk_7⟩ := hp
        refine lv_as (z := mindS Lx T q) rfl ?_
        refine lv_iload_n hx hb dX8_manners_34 rfl (lv_at hl 2 rfl) ?_
        refine lv_ishr hx hb dX8_manners_35 ?_
        refine lv_iconst (v := 1) hx hb dX8_manners_36 (by decide) ?_
        refine lv_iand hx hb dX8_manners_37 ?_
        refine lv_isub hx hb dX8_manners_38 ?_
        refine lv_goto (tgt := 58) hx hb dX8_manners_39 (by decide) ?_
        exact hret (1 - (((mindS Lx T q) >>> (a &&& 31)) &&& 1)) ρ_8 _ _ _ _ _ hW rfl rfl (by exact ⟨by first | (simp only [mannersP, bit_flip, show ∀ x y : Int32, 1 - (x >>> (y &&& 31) &&& 1) = if holdS x y = 0 then 1 else 0 from bit_flip, hiq, in_ite, l3, l10, l60, l6, l40, l100000, l4, l20, l12, c_1, c_2, c_3, eq_self, if_true, if_false, not_false_eq_true, not_true_eq_false]; done) | (simp [mannersP, bit_flip, show ∀ x y : Int32, 1 - (x >>> (y &&& 31) &&& 1) = if holdS x y = 0 then 1 else 0 from bit_flip, hiq, in_ite, l3, l10, l60, l6, l40, l100000, l4, l20, l12, c_1, c_2, c_3, eq_self, if_true, if_false, not_false_eq_true, not_true_eq_false]; done), (Kp.trans Kp.rf hk_7)⟩) dX8_manners_58
    ·
      refine lv_bipush (v := (-6)) hx hb dX8_manners_21 (by decide) ?_
      exact hret (-6) ρ _ _ _ _ _ hW rfl rfl (by exact ⟨by first | (simp only [mannersP, bit_flip, show ∀ x y : Int32, 1 - (x >>> (y &&& 31) &&& 1) = if holdS x y = 0 then 1 else 0 from bit_flip, hiq, in_ite, l3, l10, l60, l6, l40, l100000, l4, l20, l12, c_1, c_2, eq_self, if_true, if_false, not_false_eq_true, not_true_eq_false]; done) | (simp [mannersP, bit_flip, show ∀ x y : Int32, 1 - (x >>> (y &&& 31) &&& 1) = if holdS x y = 0 then 1 else 0 from bit_flip, hiq, in_ite, l3, l10, l60, l6, l40, l100000, l4, l20, l12, c_1, c_2, eq_self, if_true, if_false, not_false_eq_true, not_true_eq_false]; done), Kp.rf⟩) dX8_manners_23
  ·
    refine lv_bipush (v := (-5)) hx hb dX8_manners_8 (by decide) ?_
    exact hret (-5) ρ _ _ _ _ _ hW rfl rfl (by exact ⟨by first | (simp only [mannersP, bit_flip, show ∀ x y : Int32, 1 - (x >>> (y &&& 31) &&& 1) = if holdS x y = 0 then 1 else 0 from bit_flip, in_ite, l3, l10, l60, l6, l40, l100000, l4, l20, l12, c_1, eq_self, if_true, if_false, not_false_eq_true, not_true_eq_false]; done) | (simp [mannersP, bit_flip, show ∀ x y : Int32, 1 - (x >>> (y &&& 31) &&& 1) = if holdS x y = 0 then 1 else 0 from bit_flip, in_ite, l3, l10, l60, l6, l40, l100000, l4, l20, l12, c_1, eq_self, if_true, if_false, not_false_eq_true, not_true_eq_false]; done), Kp.rf⟩) dX8_manners_10
abbrev rm_yX8_minute : Room := { frames := 7, cells := 0, slots := 0, locals := 163 }
set_option maxHeartbeats 800000 in
set_option maxRecDepth 100000 in
theorem kX8_minute {l : Launch} {D : va_G} {cA : ClassId} {ad : Nat → Nat} {ρ T σ : Nat → Nat → Int32} {sz : Nat} {n mi : Nat} {Lx : Lw} (hT : okT n T) (hM : okML n σ Lx) (hmi : T 6 2 = nI mi) (hm9 : mi ≤ 999) : MMi l yX8_minute cX8_minute 1 FieldType.int rm_yX8_minute [.ref (ad 0)] D cA ad ρ T σ sz (fun (r : Int32) (u : (Nat → Nat → Int32) × Tb) => r = (minuteP Lx T).1 ∧ u.2 = (minuteP Lx T).2 ∧ Kp ρ u.1) (fun u : (Nat → Nat → Int32) × Tb => ment ad cA u.1 u.2 σ) := by
  refine gw_stI (Ff := fun u : (Nat → Nat → Int32) × Tb => ment ad cA u.1 u.2 σ) (own := RX8) (by decide +kernel) rfl (Nat.le_of_ble_eq_true rfl) ?_
  intro p e s m ar below meth c A Q F hE hsz hW hret ls hl
  obtain ⟨hx, hb, hml, hown, hts⟩ := id F
  have hl : lv_has ls 1 [(0, .ref (ad 0))] := hl
  have hs6 := hT.1
  have hsN := hT.2.1
  refine lv_aload_n hx hb dX8_minute_0 rfl (lv_at hl 0 rfl) ?_
  refine mr_f F hW 4 (by decide) rfl fl_RX8_76 dX8_minute_1 ?_
  refine lv_sipush (v := 999) hx hb dX8_minute_4 (by decide) ?_
  refine lv_icmp_ne (tgt := 15) hx hb dX8_minute_7 (by decide) (fun c_1 => ?_) (fun c_1 => ?_)
  ·
    refine lv_aload_n hx hb dX8_minute_15 rfl (lv_at hl 0 rfl) ?_
    refine gw_callVi (As := []) (rest := []) F hl.1 hW (fun _ _ _ => trivial) gw_T_E (by decide) (rfl : ment ad cA _ _ _ 0 = _) rfl (kX8_minuteOf (n := n) (Lx := Lx) hT hM) pd_yX8_minuteOf ml_RX8_188 im_yX8_minuteOf se_yX8_minuteOf ini_RX8 cd_yX8_minuteOf ⟨rfl, rfl⟩ ⟨Nat.le_of_ble_eq_true rfl, Nat.le_of_ble_eq_true rfl⟩ rfl rfl (Nat.le_of_ble_eq_true rfl) ⟨Nat.zero_le _, Nat.zero_le _⟩ dX8_minute_16 (fun r u H locs hp hW _ _ => ?_)
    obtain ⟨ρ_2, T_3⟩ := u
    obtain ⟨rfl, hk_4, hTe⟩ := hp
    have hTe : T_3 = (passS Lx T).1 := hTe
    subst hTe
    refine lv_as (z := (passS Lx T).2) rfl ?_
    exact hret ((passS Lx T).2) (ρ_2, (passS Lx T).1) _ _ _ _ _ hW rfl rfl (by have hlt : T 6 2 < 999 := (by rw [hmi] at c_1 ⊢; exact nI_lt (b := 999) (by have : ¬ mi = 999 := (fun z => c_1 (by rw [z]; rfl)); omega) (by decide)); unfold minuteP; rw [if_pos hlt]; exact ⟨rfl, rfl, (Kp.trans Kp.rf hk_4)⟩) dX8_minute_19
  ·
    refine lv_bipush (v := (-3)) hx hb dX8_minute_10 (by decide) ?_
    refine lv_goto (tgt := 19) hx hb dX8_minute_12 (by decide) ?_
    exact hret (-3) (ρ, T) _ _ _ _ _ hW rfl rfl (by unfold minuteP; rw [if_neg (fun z => by rw [c_1] at z; exact absurd z (by decide))]; exact ⟨rfl, rfl, Kp.rf⟩) dX8_minute_19
abbrev rm_yX8_act : Room := { frames := 6, cells := 0, slots := 0, locals := 141 }
set_option maxHeartbeats 800000 in
set_option maxRecDepth 100000 in
theorem kX8_act {l : Launch} {D : va_G} {cA : ClassId} {ad : Nat → Nat} {ρ T σ : Nat → Nat → Int32} {sz : Nat} {n : Nat} {Lx : Lw} {pp : Int32} (hT : okT n T) (hM : okML n σ Lx) : MMi l yX8_act cX8_act 3 FieldType.int rm_yX8_act [.ref (ad 0), .int pp] D cA ad ρ T σ sz (fun (r : Int32) (u : (Nat → Nat → Int32) × Tb) => r = (actP Lx T pp).1 ∧ u.2 = (actP Lx T pp).2 ∧ Kp ρ u.1) (fun u : (Nat → Nat → Int32) × Tb => ment ad cA u.1 u.2 σ) := by
  refine gw_stI (Ff := fun u : (Nat → Nat → Int32) × Tb => ment ad cA u.1 u.2 σ) (own := RX8) (by decide +kernel) rfl (Nat.le_of_ble_eq_true rfl) ?_
  intro p e s m ar below meth c A Q F hE hsz hW hret ls hl
  obtain ⟨hx, hb, hml, hown, hts⟩ := id F
  have hl : lv_has ls 3 [(0, .ref (ad 0)), (1, .int pp)] := hl
  have hs6 := hT.1
  have hsN := hT.2.1
  refine lv_aload_n hx hb dX8_act_0 rfl (lv_at hl 0 rfl) ?_
  refine lv_iload_n hx hb dX8_act_1 rfl (lv_at hl 1 rfl) ?_
  refine gw_callVi (As := [.int pp]) (rest := []) F hl.1 hW (fun _ _ _ => trivial) gw_T_E (by decide) (rfl : ment ad cA _ _ _ 0 = _) rfl (kX8_isOne (n := n) hT) pd_yX8_isOne ml_RX8_161 im_yX8_isOne se_yX8_isOne ini_RX8 cd_yX8_isOne ⟨rfl, rfl⟩ ⟨Nat.le_of_ble_eq_true rfl, Nat.le_of_ble_eq_true rfl⟩ rfl rfl (Nat.le_of_ble_eq_true rfl) ⟨Nat.zero_le _, Nat.zero_le _⟩ dX8_act_2 (fun r u H locs hp hW _ _ => ?_)
  subst hp
  refine lv_as (z := oneP T pp) rfl ?_
  refine lv_if_ne (tgt := 11) hx hb dX8_act_5 (by decide) (fun c_1 => ?_) (fun c_1 => ?_)
  ·
    obtain ⟨q, hq, rfl⟩ := one_nat hT c_1; have hq6 : q < 6 := seats_le hT hq; have hiq : iN (nI q) = q := iN_nI (by omega); have hGq := hT.2.2.2.2 q hq
    refine lv_aload_n hx hb dX8_act_11 rfl (lv_at hl 0 rfl) ?_
    refine lv_iload_n hx hb dX8_act_12 rfl (lv_at hl 1 rfl) ?_
    refine gw_callVi (As := [.int (nI q)]) (rest := []) F hl.1 hW (fun _ _ _ => trivial) gw_T_E (by decide) (rfl : ment ad cA _ _ _ 0 = _) rfl (kX8_doesAct (n := n) (q := q) (Lx := Lx) hT hM hq) pd_yX8_doesAct ml_RX8_185 im_yX8_doesAct se_yX8_doesAct ini_RX8 cd_yX8_doesAct ⟨rfl, rfl⟩ ⟨Nat.le_of_ble_eq_true rfl, Nat.le_of_ble_eq_true rfl⟩ rfl rfl (Nat.le_of_ble_eq_true rfl) ⟨Nat.zero_le _, Nat.zero_le _⟩ dX8_act_13 (fun r u H locs hp hW _ _ => ?_)
    obtain ⟨ρ_2, T_3⟩ := u
    obtain ⟨rfl, hk_4, hTe⟩ := hp
    have hTe : T_3 = (if actS Lx T q = -1 then T else performS Lx T q (actS Lx T q)) := hTe
    subst hTe
    refine lv_as (z := actS Lx T q) rfl ?_
    refine lv_istore_n (lv' := [(2, .int (actS Lx T q)), (0, .ref (ad 0)), (1, .int (nI q))]) hx hb dX8_act_16 rfl hl (by decide) rfl (fun ls hl => ?_)
    refine lv_iload_n hx hb dX8_act_17 rfl (lv_at hl 0 rfl) ?_
    refine lv_iconst (v := (-1)) hx hb dX8_act_18 (by decide) ?_
    refine lv_icmp_ne (tgt := 27) hx hb dX8_act_19 (by decide) (fun c_5 => ?_) (fun c_5 => ?_)
    ·
      refine lv_iload_n hx hb dX8_act_27 rfl (lv_at hl 0 rfl) ?_
      exact hret (actS Lx T q) (ρ_2, if actS Lx T q = -1 then T else performS Lx T q (actS Lx T q)) _ _ _ _ _ hW rfl rfl (by unfold actP; rw [if_neg c_1, hiq, if_neg c_5]; exact ⟨rfl, by rw [if_neg c_5], (Kp.trans Kp.rf hk_4)⟩) dX8_act_28
    ·
      refine lv_bipush (v := (-3)) hx hb dX8_act_22 (by decide) ?_
      refine lv_goto (tgt := 28) hx hb dX8_act_24 (by decide) ?_
      exact hret (-3) (ρ_2, if actS Lx T q = -1 then T else performS Lx T q (actS Lx T q)) _ _ _ _ _ hW rfl rfl (by unfold actP; rw [if_neg c_1, hiq, if_pos c_5]; exact ⟨rfl, by rw [if_pos c_5], (Kp.trans Kp.rf hk_4)⟩) dX8_act_28
  ·
    refine lv_bipush (v := (-5)) hx hb dX8_act_8 (by decide) ?_
    exact hret (-5) (ρ, T) _ _ _ _ _ hW rfl rfl (by exact ⟨by first | (simp only [actP, in_ite, l3, l10, l60, l6, l40, l100000, l4, l20, l12, c_1, eq_self, if_true, if_false, not_false_eq_true, not_true_eq_false]; done) | (simp [actP, in_ite, l3, l10, l60, l6, l40, l100000, l4, l20, l12, c_1, eq_self, if_true, if_false, not_false_eq_true, not_true_eq_false]; done), by first | (simp only [actP, in_ite, l3, l10, l60, l6, l40, l100000, l4, l20, l12, c_1, eq_self, if_true, if_false, not_false_eq_true, not_true_eq_false]; done) | (simp [actP, in_ite, l3, l10, l60, l6, l40, l100000, l4, l20, l12, c_1, eq_self, if_true, if_false, not_false_eq_true, not_true_eq_false]; done), Kp.rf⟩) dX8_act_10
abbrev rm_yX8_swap : Room := { frames := 2, cells := 0, slots := 0, locals := 43 }
set_option maxHeartbeats 800000 in
set_option maxRecDepth 100000 in
theorem kX8_swap {l : Launch} {D : va_G} {cA : ClassId} {ad : Nat → Nat} {ρ T σ : Nat → Nat → Int32} {sz : Nat} {n : Nat} {a z : Int32} (hT : okT n T) : MMi l yX8_swap cX8_swap 3 FieldType.int rm_yX8_swap [.ref (ad 0), .int a, .int z] D cA ad ρ T σ sz (fun (r : Int32) (u : Tb) => r = (swapP T a z).1 ∧ u = (swapP T a z).2) (fun u : Tb => ment ad cA ρ u σ) := by
  refine gw_stI (Ff := fun u : Tb => ment ad cA ρ u σ) (own := RX8) (by decide +kernel) rfl (Nat.le_of_ble_eq_true rfl) ?_
  intro p e s m ar below meth c A Q F hE hsz hW hret ls hl
  obtain ⟨hx, hb, hml, hown, hts⟩ := id F
  have hl : lv_has ls 3 [(0, .ref (ad 0)), (1, .int a), (2, .int z)] := hl
  have hs6 := hT.1
  have hsN := hT.2.1
  refine lv_aload_n hx hb dX8_swap_0 rfl (lv_at hl 0 rfl) ?_
  refine lv_iload_n hx hb dX8_swap_1 rfl (lv_at hl 1 rfl) ?_
  refine gw_callVi (As := [.int a]) (rest := []) F hl.1 hW (fun _ _ _ => trivial) gw_T_E (by decide) (rfl : ment ad cA _ _ _ 0 = _) rfl (kX8_isOne (n := n) hT) pd_yX8_isOne ml_RX8_161 im_yX8_isOne se_yX8_isOne ini_RX8 cd_yX8_isOne ⟨rfl, rfl⟩ ⟨Nat.le_of_ble_eq_true rfl, Nat.le_of_ble_eq_true rfl⟩ rfl rfl (Nat.le_of_ble_eq_true rfl) ⟨Nat.zero_le _, Nat.zero_le _⟩ dX8_swap_2 (fun r u H locs hp hW _ _ => ?_)
  subst hp
  refine lv_as (z := oneP T a) rfl ?_
  refine lv_if_eq (tgt := 21) hx hb dX8_swap_5 (by decide) (fun c_1 => ?_) (fun c_1 => ?_)
  ·
    refine lv_bipush (v := (-5)) hx hb dX8_swap_21 (by decide) ?_
    exact hret (-5) T _ _ _ _ _ hW rfl rfl (by exact ⟨by first | (simp only [swapP, in_ite, l3, l10, l60, l6, l40, l100000, l4, l20, l12, c_1, eq_self, if_true, if_false, not_false_eq_true, not_true_eq_false]; done) | (simp [swapP, in_ite, l3, l10, l60, l6, l40, l100000, l4, l20, l12, c_1, eq_self, if_true, if_false, not_false_eq_true, not_true_eq_false]; done), by first | (simp only [swapP, in_ite, l3, l10, l60, l6, l40, l100000, l4, l20, l12, c_1, eq_self, if_true, if_false, not_false_eq_true, not_true_eq_false]; done) | (simp [swapP, in_ite, l3, l10, l60, l6, l40, l100000, l4, l20, l12, c_1, eq_self, if_true, if_false, not_false_eq_true, not_true_eq_false]; done)⟩) dX8_swap_23
  ·
    obtain ⟨q, hq, rfl⟩ := one_nat hT c_1; have hq6 : q < 6 := seats_le hT hq; have hiq : iN (nI q) = q := iN_nI (by omega); have hGq := hT.2.2.2.2 q hq
    refine lv_aload_n hx hb dX8_swap_8 rfl (lv_at hl 0 rfl) ?_
    refine lv_iload_n hx hb dX8_swap_9 rfl (lv_at hl 2 rfl) ?_
    refine gw_callVi (As := [.int z]) (rest := []) F hl.1 hW (fun _ _ _ => trivial) gw_T_E (by decide) (rfl : ment ad cA _ _ _ 0 = _) rfl (kX8_isOne (n := n) hT) pd_yX8_isOne ml_RX8_161 im_yX8_isOne se_yX8_isOne ini_RX8 cd_yX8_isOne ⟨rfl, rfl⟩ ⟨Nat.le_of_ble_eq_true rfl, Nat.le_of_ble_eq_true rfl⟩ rfl rfl (Nat.le_of_ble_eq_true rfl) ⟨Nat.zero_le _, Nat.zero_le _⟩ dX8_swap_10 (fun r u H locs hp hW _ _ => ?_)
    subst hp
    refine lv_as (z := oneP T z) rfl ?_
    refine lv_if_eq (tgt := 21) hx hb dX8_swap_13 (by decide) (fun c_2 => ?_) (fun c_2 => ?_)
    ·
      refine lv_bipush (v := (-5)) hx hb dX8_swap_21 (by decide) ?_
      exact hret (-5) T _ _ _ _ _ hW rfl rfl (by exact ⟨by first | (simp only [swapP, hiq, in_ite, l3, l10, l60, l6, l40, l100000, l4, l20, l12, c_1, c_2, eq_self, if_true, if_false, not_false_eq_true, not_true_eq_false]; done) | (simp [swapP, hiq, in_ite, l3, l10, l60, l6, l40, l100000, l4, l20, l12, c_1, c_2, eq_self, if_true, if_false, not_false_eq_true, not_true_eq_false]; done), by first | (simp only [swapP, hiq, in_ite, l3, l10, l60, l6, l40, l100000, l4, l20, l12, c_1, c_2, eq_self, if_true, if_false, not_false_eq_true, not_true_eq_false]; done) | (simp [swapP, hiq, in_ite, l3, l10, l60, l6, l40, l100000, l4, l20, l12, c_1, c_2, eq_self, if_true, if_false, not_false_eq_true, not_true_eq_false]; done)⟩) dX8_swap_23
    ·
      obtain ⟨q2, hq2, rfl⟩ := one_nat hT c_2; have hq26 : q2 < 6 := seats_le hT hq2; have hiq2 : iN (nI q2) = q2 := iN_nI (by omega); have hGq2 := hT.2.2.2.2 q2 hq2
      refine lv_iload_n hx hb dX8_swap_16 rfl (lv_at hl 1 rfl) ?_
      refine lv_iload_n hx hb dX8_swap_17 rfl (lv_at hl 2 rfl) ?_
      refine lv_icmp_ne (tgt := 24) hx hb dX8_swap_18 (by decide) (fun c_3 => ?_) (fun c_3 => ?_)
      ·
        refine lv_aload_n hx hb dX8_swap_24 rfl (lv_at hl 0 rfl) ?_
        refine lv_iload_n hx hb dX8_swap_25 rfl (lv_at hl 1 rfl) ?_
        refine lv_iload_n hx hb dX8_swap_26 rfl (lv_at hl 2 rfl) ?_
        refine gw_callVv (As := [.int (nI q), .int (nI q2)]) (rest := []) F hl.1 hW (fun _ _ _ => trivial) gw_T_E (by decide) (rfl : ment ad cA _ _ _ 0 = _) rfl (kX8_changes (a := q) (b := q2) (by omega) (by omega)) pd_yX8_changes ml_RX8_191 im_yX8_changes se_yX8_changes ini_RX8 cd_yX8_changes ⟨rfl, rfl⟩ ⟨Nat.le_of_ble_eq_true rfl, Nat.le_of_ble_eq_true rfl⟩ rfl rfl (Nat.le_of_ble_eq_true rfl) ⟨Nat.zero_le _, Nat.zero_le _⟩ dX8_swap_27 (fun T_4 H locs hp hW _ _ => ?_)
        have hp : T_4 = swapS T q q2 := hp
        subst hp
        refine lv_aload_n hx hb dX8_swap_30 rfl (lv_at hl 0 rfl) ?_
        refine mr_f F hW 3 (by decide) rfl fl_RX8_16 dX8_swap_31 ?_
        refine lv_iconst (v := 5) hx hb dX8_swap_34 (by decide) ?_
        refine lv_iload_n hx hb dX8_swap_35 rfl (lv_at hl 1 rfl) ?_
        refine lv_imul hx hb dX8_swap_36 ?_
        refine mr_rows q 0 (by omega) (by decide) (mi_50 q) F hW dX8_swap_37 ?_
        exact hret ((swapS T q q2) q 2) (swapS T q q2) _ _ _ _ _ hW rfl rfl (by exact ⟨by first | (simp only [swapP, hiq, hiq2, in_ite, l3, l10, l60, l6, l40, l100000, l4, l20, l12, c_1, c_2, c_3, eq_self, if_true, if_false, not_false_eq_true, not_true_eq_false]; done) | (simp [swapP, hiq, hiq2, in_ite, l3, l10, l60, l6, l40, l100000, l4, l20, l12, c_1, c_2, c_3, eq_self, if_true, if_false, not_false_eq_true, not_true_eq_false]; done), by first | (simp only [swapP, hiq, hiq2, in_ite, l3, l10, l60, l6, l40, l100000, l4, l20, l12, c_1, c_2, c_3, eq_self, if_true, if_false, not_false_eq_true, not_true_eq_false]; done) | (simp [swapP, hiq, hiq2, in_ite, l3, l10, l60, l6, l40, l100000, l4, l20, l12, c_1, c_2, c_3, eq_self, if_true, if_false, not_false_eq_true, not_true_eq_false]; done)⟩) dX8_swap_38
      ·
        refine lv_bipush (v := (-5)) hx hb dX8_swap_21 (by decide) ?_
        exact hret (-5) T _ _ _ _ _ hW rfl rfl (by exact ⟨by first | (simp only [swapP, hiq, hiq2, in_ite, l3, l10, l60, l6, l40, l100000, l4, l20, l12, c_1, c_2, c_3, eq_self, if_true, if_false, not_false_eq_true, not_true_eq_false]; done) | (simp [swapP, hiq, hiq2, in_ite, l3, l10, l60, l6, l40, l100000, l4, l20, l12, c_1, c_2, c_3, eq_self, if_true, if_false, not_false_eq_true, not_true_eq_false]; done), by first | (simp only [swapP, hiq, hiq2, in_ite, l3, l10, l60, l6, l40, l100000, l4, l20, l12, c_1, c_2, c_3, eq_self, if_true, if_false, not_false_eq_true, not_true_eq_false]; done) | (simp [swapP, hiq, hiq2, in_ite, l3, l10, l60, l6, l40, l100000, l4, l20, l12, c_1, c_2, c_3, eq_self, if_true, if_false, not_false_eq_true, not_true_eq_false]; done)⟩) dX8_swap_23
