theorem lt_nat {x : Int32} {N : Nat} (h0 : ¬ x < 0) (h : x < nI N) (hN : N < 2 ^ 31) : ∃ k, k < N ∧ x = nI k := by
  obtain ⟨j, hj, rfl⟩ := nI_of h0
  exact ⟨j, mi_lt h hj hN, rfl⟩
theorem ge_nat {x : Int32} {N : Nat} (h0 : ¬ x < 0) (h : ¬ nI N ≤ x) (hN : N < 2 ^ 31) : ∃ k, k < N ∧ x = nI k := by
  obtain ⟨j, hj, rfl⟩ := nI_of h0
  exact ⟨j, mi_nle h hN hj, rfl⟩
/-- what holds of the class's object between calls, as far as its calls need it -/
def okO (n : Nat) (TT τ : Nat → Nat → Nat → Int32) (σ : Nat → Nat → Int32) : Prop := 1 ≤ n ∧ n ≤ 6 ∧ okT n (TT 0) ∧ okX n τ ∧ σ 0 4 = nI n ∧ ∀ t, t < n → τ t 2 0 = nI t
abbrev rm_yX7_count : Room := { frames := 6, cells := 0, slots := 0, locals := 133 }
set_option maxHeartbeats 800000 in
set_option maxRecDepth 100000 in
theorem kX7_count {l : Launch} {D : va_G} {cs : Nat → ClassId} {ad : Nat → Nat} {n : Nat} {ρ σ : Nat → Nat → Int32} {TT τ : Nat → Nat → Nat → Int32} {sz : Nat} {w : Int32} (hO : okO n TT τ σ) : XMi l yX7_count cX7_count 2 FieldType.int rm_yX7_count [.ref (ad 0), .int w] D cs ad n ρ TT τ σ sz (fun (r : Int32) (u : Nat → Nat → Int32) => r = countP (xLx n τ) (TT 0) (σ 0 4) (σ 1 1) w) (fun u : Nat → Nat → Int32 => xent ad cs n u TT τ σ) := by
  refine gw_stI (Ff := fun u : Nat → Nat → Int32 => xent ad cs n u TT τ σ) (own := RX7) (by decide +kernel) rfl (Nat.le_of_ble_eq_true rfl) ?_
  intro p e s m ar below meth c A Q F hE hsz hW hret ls hl
  obtain ⟨hx, hb, hml, hown, hts⟩ := id F
  have hl : lv_has ls 2 [(0, .ref (ad 0)), (1, .int w)] := hl
  obtain ⟨hn1, hn6, hT, hX, hc, hnum⟩ := hO
  have hs6 := hT.1
  have hsN := hT.2.1
  have ht0 : (TT 0 6 3).toNatClampNeg < n := hT.2.2.1
  refine lv_iload_n hx hb dX7_count_0 rfl (lv_at hl 1 rfl) ?_
  by_cases c_1 : w = 0
  ·
    refine lv_tableIn (off := 39) (tgt := 40) hx hb dX7_count_1 (by rw [c_1]; decide) (by rw [c_1]; decide) (by rw [c_1]; rfl) (by decide) ?_
    refine lv_aload_n hx hb dX7_count_40 rfl (lv_at hl 0 rfl) ?_
    refine xr_O F hW 5 (by decide) rfl fl_RX7_50 dX7_count_41 ?_
    refine xr_Ti (b := 0) F hW (by decide) 1 (by decide) fl_RX7_67 dX7_count_44 ?_
    exact hret (TT 0 6 1) _ _ _ _ _ _ hW rfl rfl (by (try simp only [i32_le, Decidable.not_not] at c_1); first | (simp only [countP, i32_le, c_1, if_true, if_false, not_false_eq_true, not_true_eq_false]; done) | simp [countP, c_1, i32_le]) dX7_count_47
  ·
    by_cases c_2 : w = 1
    ·
      refine lv_tableIn (off := 47) (tgt := 48) hx hb dX7_count_1 (by rw [c_2]; decide) (by rw [c_2]; decide) (by rw [c_2]; rfl) (by decide) ?_
      refine lv_aload_n hx hb dX7_count_48 rfl (lv_at hl 0 rfl) ?_
      refine xr_O F hW 5 (by decide) rfl fl_RX7_50 dX7_count_49 ?_
      refine xr_Ti (b := 0) F hW (by decide) 2 (by decide) fl_RX7_70 dX7_count_52 ?_
      exact hret (TT 0 6 2) _ _ _ _ _ _ hW rfl rfl (by (try simp only [i32_le, Decidable.not_not] at c_1); (try simp only [i32_le, Decidable.not_not] at c_2); first | (simp only [countP, i32_le, c_1, c_2, if_true, if_false, not_false_eq_true, not_true_eq_false]; done) | simp [countP, c_1, c_2, i32_le]) dX7_count_55
    ·
      by_cases c_3 : w = 2
      ·
        refine lv_tableIn (off := 55) (tgt := 56) hx hb dX7_count_1 (by rw [c_3]; decide) (by rw [c_3]; decide) (by rw [c_3]; rfl) (by decide) ?_
        refine lv_aload_n hx hb dX7_count_56 rfl (lv_at hl 0 rfl) ?_
        refine xr_O F hW 5 (by decide) rfl fl_RX7_50 dX7_count_57 ?_
        refine gw_callVi (As := []) (rest := []) F hl.1 hW (fun _ _ hw => va_Nw.warmM hw hE) XE_E (by omega) (xe_T (b := 0) (by decide)) rfl (kX4_stuckBits (b := 0) (by decide) hT hX) pd_yX4_stuckBits ml_RX7_73 im_yX4_stuckBits se_yX4_stuckBits ini_RX4 cd_yX4_stuckBits ⟨rfl, rfl⟩ ⟨Nat.le_of_ble_eq_true rfl, Nat.le_of_ble_eq_true rfl⟩ rfl rfl (Nat.le_of_ble_eq_true rfl) ⟨Nat.zero_le _, Nat.zero_le _⟩ dX7_count_60 (fun r ρ_4 H locs hp hW _ _ => ?_)
        subst hp
        refine gw_callP (As := [.int (stuckK (xLx n τ) (TT 0) (seatsN (TT 0)))]) (rest := []) F hl.1 (kJ6_bitCount_0f7a4) pd_yJ6_bitCount_0f7a4 ml_RX7_77 st_yJ6_bitCount_0f7a4 ini_RJ6 cd_yJ6_bitCount_0f7a4 ⟨rfl, rfl⟩ ⟨Nat.le_of_ble_eq_true rfl, Nat.le_of_ble_eq_true rfl⟩ rfl rfl (Nat.le_of_ble_eq_true rfl) ⟨Nat.zero_le _, Nat.zero_le _⟩ dX7_count_63 ?_
        refine lv_as (z := onesS (stuckBS (xLx n τ) (TT 0))) (bc_stuck hT) ?_
        exact hret (onesS (stuckBS (xLx n τ) (TT 0))) _ _ _ _ _ _ hW rfl rfl (by (try simp only [i32_le, Decidable.not_not] at c_1); (try simp only [i32_le, Decidable.not_not] at c_2); (try simp only [i32_le, Decidable.not_not] at c_3); first | (simp only [countP, i32_le, c_1, c_2, c_3, if_true, if_false, not_false_eq_true, not_true_eq_false]; done) | simp [countP, c_1, c_2, c_3, i32_le]) dX7_count_66
      ·
        by_cases c_5 : w = 3
        ·
          refine lv_tableIn (off := 66) (tgt := 67) hx hb dX7_count_1 (by rw [c_5]; decide) (by rw [c_5]; decide) (by rw [c_5]; rfl) (by decide) ?_
          refine lv_aload_n hx hb dX7_count_67 rfl (lv_at hl 0 rfl) ?_
          refine xr_O F hW 4 (by decide) rfl fl_RX7_41 dX7_count_68 ?_
          exact hret (σ 0 4) _ _ _ _ _ _ hW rfl rfl (by (try simp only [i32_le, Decidable.not_not] at c_1); (try simp only [i32_le, Decidable.not_not] at c_2); (try simp only [i32_le, Decidable.not_not] at c_3); (try simp only [i32_le, Decidable.not_not] at c_5); first | (simp only [countP, i32_le, c_1, c_2, c_3, c_5, if_true, if_false, not_false_eq_true, not_true_eq_false]; done) | simp [countP, c_1, c_2, c_3, c_5, i32_le]) dX7_count_71
        ·
          by_cases c_6 : w = 4
          ·
            refine lv_tableIn (off := 71) (tgt := 72) hx hb dX7_count_1 (by rw [c_6]; decide) (by rw [c_6]; decide) (by rw [c_6]; rfl) (by decide) ?_
            refine lv_aload_n hx hb dX7_count_72 rfl (lv_at hl 0 rfl) ?_
            refine xr_O F hW 5 (by decide) rfl fl_RX7_50 dX7_count_73 ?_
            refine xr_Tl (b := 0) F hW (by decide) fl_RX7_83 dX7_count_76 ?_
            refine xr_X (t := (TT 0 6 3).toNatClampNeg) F hW (by omega) 0 (by decide) rfl fl_RX7_87 dX7_count_79 ?_
            refine lv_as (z := TT 0 6 3) (by rw [hnum _ ht0]; exact hT.2.2.2.1.symm) ?_
            exact hret (TT 0 6 3) _ _ _ _ _ _ hW rfl rfl (by (try simp only [i32_le, Decidable.not_not] at c_1); (try simp only [i32_le, Decidable.not_not] at c_2); (try simp only [i32_le, Decidable.not_not] at c_3); (try simp only [i32_le, Decidable.not_not] at c_5); (try simp only [i32_le, Decidable.not_not] at c_6); first | (simp only [countP, i32_le, c_1, c_2, c_3, c_5, c_6, if_true, if_false, not_false_eq_true, not_true_eq_false]; done) | simp [countP, c_1, c_2, c_3, c_5, c_6, i32_le]) dX7_count_82
          ·
            by_cases c_7 : w = 5
            ·
              refine lv_tableIn (off := 82) (tgt := 83) hx hb dX7_count_1 (by rw [c_7]; decide) (by rw [c_7]; decide) (by rw [c_7]; rfl) (by decide) ?_
              refine lv_aload_n hx hb dX7_count_83 rfl (lv_at hl 0 rfl) ?_
              refine xr_O F hW 0 (by decide) rfl fl_RX7_10 dX7_count_84 ?_
              refine xr_P F hW 1 (by decide) rfl fl_RX7_90 dX7_count_87 ?_
              exact hret (σ 1 1) _ _ _ _ _ _ hW rfl rfl (by (try simp only [i32_le, Decidable.not_not] at c_1); (try simp only [i32_le, Decidable.not_not] at c_2); (try simp only [i32_le, Decidable.not_not] at c_3); (try simp only [i32_le, Decidable.not_not] at c_5); (try simp only [i32_le, Decidable.not_not] at c_6); (try simp only [i32_le, Decidable.not_not] at c_7); first | (simp only [countP, i32_le, c_1, c_2, c_3, c_5, c_6, c_7, if_true, if_false, not_false_eq_true, not_true_eq_false]; done) | simp [countP, c_1, c_2, c_3, c_5, c_6, c_7, i32_le]) dX7_count_90
            ·
              refine lv_tableOut (tgt := 91) hx hb dX7_count_1 (tb_out6_0 c_1 c_2 c_3 c_5 c_6 c_7) (by decide) ?_
              refine lv_bipush (v := (-2)) hx hb dX7_count_91 (by decide) ?_
              exact hret (-2) _ _ _ _ _ _ hW rfl rfl (by (try simp only [i32_le, Decidable.not_not] at c_1); (try simp only [i32_le, Decidable.not_not] at c_2); (try simp only [i32_le, Decidable.not_not] at c_3); (try simp only [i32_le, Decidable.not_not] at c_5); (try simp only [i32_le, Decidable.not_not] at c_6); (try simp only [i32_le, Decidable.not_not] at c_7); first | (simp only [countP, i32_le, c_1, c_2, c_3, c_5, c_6, c_7, if_true, if_false, not_false_eq_true, not_true_eq_false]; done) | simp [countP, c_1, c_2, c_3, c_5, c_6, c_7, i32_le]) dX7_count_93
abbrev rm_yX7_clock : Room := { frames := 0, cells := 0, slots := 0, locals := 0 }
set_option maxHeartbeats 800000 in
set_option maxRecDepth 100000 in
theorem kX7_clock {l : Launch} {D : va_G} {cs : Nat → ClassId} {ad : Nat → Nat} {n : Nat} {ρ σ : Nat → Nat → Int32} {TT τ : Nat → Nat → Nat → Int32} {sz : Nat} {v : Int32}  : XMi l yX7_clock cX7_clock 3 FieldType.int rm_yX7_clock [.ref (ad 0), .int v] D cs ad n ρ TT τ σ sz (fun (r : Int32) (u : Nat → Nat → Nat → Int32) => r = (clockP (TT 0) v).1 ∧ u = va_up TT 0 (clockP (TT 0) v).2) (fun u : Nat → Nat → Nat → Int32 => xent ad cs n ρ u τ σ) := by
  refine gw_stI (Ff := fun u : Nat → Nat → Nat → Int32 => xent ad cs n ρ u τ σ) (own := RX7) (by decide +kernel) rfl (Nat.le_of_ble_eq_true rfl) ?_
  intro p e s m ar below meth c A Q F hE hsz hW hret ls hl
  obtain ⟨hx, hb, hml, hown, hts⟩ := id F
  have hl : lv_has ls 3 [(0, .ref (ad 0)), (1, .int v)] := hl
  refine lv_iload_n hx hb dX7_clock_0 rfl (lv_at hl 1 rfl) ?_
  refine lv_if_lt (tgt := 11) hx hb dX7_clock_1 (by decide) (fun c_1 => ?_) (fun c_1 => ?_)
  ·
    refine lv_bipush (v := (-2)) hx hb dX7_clock_11 (by decide) ?_
    exact hret (-2) TT _ _ _ _ _ hW rfl rfl (by (try simp only [i32_le, Decidable.not_not] at c_1); exact ⟨by first | (simp only [clockP, i32_le, c_1, if_true, if_false, not_false_eq_true, not_true_eq_false]; done) | (simp only [clockP, i32_le, c_1, if_true, if_false, not_false_eq_true, not_true_eq_false]; rfl), by first | (simp only [clockP, i32_le, c_1, if_true, if_false, not_false_eq_true, not_true_eq_false, va_up_eta, va_up_self, bx_uu]; done) | (simp only [clockP, i32_le, c_1, if_true, if_false, not_false_eq_true, not_true_eq_false, va_up_eta, va_up_self, bx_uu]; rfl)⟩) dX7_clock_13
  ·
    refine lv_iload_n hx hb dX7_clock_4 rfl (lv_at hl 1 rfl) ?_
    refine lv_sipush (v := 999) hx hb dX7_clock_5 (by decide) ?_
    refine lv_icmp_le (tgt := 14) hx hb dX7_clock_8 (by decide) (fun c_2 => ?_) (fun c_2 => ?_)
    ·
      refine lv_aload_n hx hb dX7_clock_14 rfl (lv_at hl 0 rfl) ?_
      refine xr_O F hW 5 (by decide) rfl fl_RX7_50 dX7_clock_15 ?_
      refine xr_Ti (b := 0) F hW (by decide) 2 (by decide) fl_RX7_70 dX7_clock_18 ?_
      refine lv_istore_n (lv' := [(2, .int (TT 0 6 2)), (0, .ref (ad 0)), (1, .int v)]) hx hb dX7_clock_21 rfl hl (by decide) rfl (fun ls hl => ?_)
      refine lv_aload_n hx hb dX7_clock_22 rfl (lv_at hl 1 rfl) ?_
      refine xr_O F hW 5 (by decide) rfl fl_RX7_50 dX7_clock_23 ?_
      refine lv_iload_n hx hb dX7_clock_26 rfl (lv_at hl 2 rfl) ?_
      refine xw_Ti (b := 0) F hW (by decide) 2 (by decide) fl_RX7_70 dX7_clock_27 (fun H locs hW => ?_)
      refine lv_iload_n hx hb dX7_clock_30 rfl (lv_at hl 0 rfl) ?_
      exact hret (TT 0 6 2) (va_up TT 0 (upT (TT 0) 6 2 v)) _ _ _ _ _ hW rfl rfl (by (try simp only [i32_le, Decidable.not_not] at c_1); (try simp only [i32_le, Decidable.not_not] at c_2); exact ⟨by first | (simp only [clockP, i32_le, c_1, c_2, if_true, if_false, not_false_eq_true, not_true_eq_false]; done) | (simp only [clockP, i32_le, c_1, c_2, if_true, if_false, not_false_eq_true, not_true_eq_false]; rfl), by first | (simp only [clockP, i32_le, c_1, c_2, if_true, if_false, not_false_eq_true, not_true_eq_false, va_up_eta, va_up_self, bx_uu]; done) | (simp only [clockP, i32_le, c_1, c_2, if_true, if_false, not_false_eq_true, not_true_eq_false, va_up_eta, va_up_self, bx_uu]; rfl)⟩) dX7_clock_31
    ·
      refine lv_bipush (v := (-2)) hx hb dX7_clock_11 (by decide) ?_
      exact hret (-2) TT _ _ _ _ _ hW rfl rfl (by (try simp only [i32_le, Decidable.not_not] at c_1); (try simp only [i32_le, Decidable.not_not] at c_2); exact ⟨by first | (simp only [clockP, i32_le, c_1, c_2, if_true, if_false, not_false_eq_true, not_true_eq_false]; done) | (simp only [clockP, i32_le, c_1, c_2, if_true, if_false, not_false_eq_true, not_true_eq_false]; rfl), by first | (simp only [clockP, i32_le, c_1, c_2, if_true, if_false, not_false_eq_true, not_true_eq_false, va_up_eta, va_up_self, bx_uu]; done) | (simp only [clockP, i32_le, c_1, c_2, if_true, if_false, not_false_eq_true, not_true_eq_false, va_up_eta, va_up_self, bx_uu]; rfl)⟩) dX7_clock_13
abbrev rm_yX7_force : Room := { frames := 0, cells := 0, slots := 0, locals := 0 }
set_option maxHeartbeats 800000 in
set_option maxRecDepth 100000 in
theorem kX7_force {l : Launch} {D : va_G} {cs : Nat → ClassId} {ad : Nat → Nat} {n : Nat} {ρ σ : Nat → Nat → Int32} {TT τ : Nat → Nat → Nat → Int32} {sz : Nat} {t : Int32} (hO : okO n TT τ σ) : XMi l yX7_force cX7_force 3 FieldType.int rm_yX7_force [.ref (ad 0), .int t] D cs ad n ρ TT τ σ sz (fun (r : Int32) (u : Nat → Nat → Nat → Int32) => r = (forceP (σ 0 4) (TT 0) t).1 ∧ u = va_up TT 0 (forceP (σ 0 4) (TT 0) t).2) (fun u : Nat → Nat → Nat → Int32 => xent ad cs n ρ u τ σ) := by
  refine gw_stI (Ff := fun u : Nat → Nat → Nat → Int32 => xent ad cs n ρ u τ σ) (own := RX7) (by decide +kernel) rfl (Nat.le_of_ble_eq_true rfl) ?_
  intro p e s m ar below meth c A Q F hE hsz hW hret ls hl
  obtain ⟨hx, hb, hml, hown, hts⟩ := id F
  have hl : lv_has ls 3 [(0, .ref (ad 0)), (1, .int t)] := hl
  obtain ⟨hn1, hn6, hT, hX, hc, hnum⟩ := hO
  have hs6 := hT.1
  have hsN := hT.2.1
  have ht0 : (TT 0 6 3).toNatClampNeg < n := hT.2.2.1
  refine lv_iload_n hx hb dX7_force_0 rfl (lv_at hl 1 rfl) ?_
  refine lv_if_lt (tgt := 12) hx hb dX7_force_1 (by decide) (fun c_1 => ?_) (fun c_1 => ?_)
  ·
    refine lv_bipush (v := (-2)) hx hb dX7_force_12 (by decide) ?_
    exact hret (-2) TT _ _ _ _ _ hW rfl rfl (by (try simp only [i32_le, Decidable.not_not] at c_1); exact ⟨by first | (simp only [forceP, i32_le, c_1, if_true, if_false, not_false_eq_true, not_true_eq_false]; done) | (simp only [forceP, i32_le, c_1, if_true, if_false, not_false_eq_true, not_true_eq_false]; rfl), by first | (simp only [forceP, i32_le, c_1, if_true, if_false, not_false_eq_true, not_true_eq_false, va_up_eta, va_up_self, bx_uu]; done) | (simp only [forceP, i32_le, c_1, if_true, if_false, not_false_eq_true, not_true_eq_false, va_up_eta, va_up_self, bx_uu]; rfl)⟩) dX7_force_14
  ·
    refine lv_iload_n hx hb dX7_force_4 rfl (lv_at hl 1 rfl) ?_
    refine lv_aload_n hx hb dX7_force_5 rfl (lv_at hl 0 rfl) ?_
    refine xr_O F hW 4 (by decide) rfl fl_RX7_41 dX7_force_6 ?_
    refine lv_icmp_lt (tgt := 15) hx hb dX7_force_9 (by decide) (fun c_2 => ?_) (fun c_2 => ?_)
    ·
      obtain ⟨k, hk, rfl⟩ : ∃ k, k < n ∧ t = nI k := lt_nat c_1 (by rw [← hc]; exact c_2) (by omega)
      refine lv_aload_n hx hb dX7_force_15 rfl (lv_at hl 0 rfl) ?_
      refine xr_O F hW 5 (by decide) rfl fl_RX7_50 dX7_force_16 ?_
      refine xr_Tl (b := 0) F hW (by decide) fl_RX7_83 dX7_force_19 ?_
      refine xr_X (t := (TT 0 6 3).toNatClampNeg) F hW (by omega) 0 (by decide) rfl fl_RX7_87 dX7_force_22 ?_
      refine lv_as (z := TT 0 6 3) (by rw [hnum _ ht0]; exact hT.2.2.2.1.symm) ?_
      refine lv_istore_n (lv' := [(2, .int (TT 0 6 3)), (0, .ref (ad 0)), (1, .int (nI k))]) hx hb dX7_force_25 rfl hl (by decide) rfl (fun ls hl => ?_)
      refine lv_aload_n hx hb dX7_force_26 rfl (lv_at hl 1 rfl) ?_
      refine xr_O F hW 5 (by decide) rfl fl_RX7_50 dX7_force_27 ?_
      refine lv_aload_n hx hb dX7_force_30 rfl (lv_at hl 1 rfl) ?_
      refine xr_O F hW 3 (by decide) rfl fl_RX7_34 dX7_force_31 ?_
      refine lv_iload_n hx hb dX7_force_34 rfl (lv_at hl 2 rfl) ?_
      refine xr_Xan (q := k) rfl (by omega) (by omega) F hW dX7_force_35 ?_
      refine xw_Tl (b := 0) (v := nI k) (nI_clamp (by omega)) F hW (by decide) fl_RX7_83 dX7_force_36 (fun H locs hW => ?_)
      refine lv_iload_n hx hb dX7_force_39 rfl (lv_at hl 0 rfl) ?_
      exact hret (TT 0 6 3) (va_up TT 0 (upT (TT 0) 6 3 (nI k))) _ _ _ _ _ hW rfl rfl (by (try simp only [i32_le, Decidable.not_not] at c_1); (try simp only [i32_le, Decidable.not_not] at c_2); exact ⟨by first | (simp only [forceP, i32_le, c_1, c_2, if_true, if_false, not_false_eq_true, not_true_eq_false]; done) | (simp only [forceP, i32_le, c_1, c_2, if_true, if_false, not_false_eq_true, not_true_eq_false]; rfl), by first | (simp only [forceP, i32_le, c_1, c_2, if_true, if_false, not_false_eq_true, not_true_eq_false, va_up_eta, va_up_self, bx_uu]; done) | (simp only [forceP, i32_le, c_1, c_2, if_true, if_false, not_false_eq_true, not_true_eq_false, va_up_eta, va_up_self, bx_uu]; rfl)⟩) dX7_force_40
    ·
      refine lv_bipush (v := (-2)) hx hb dX7_force_12 (by decide) ?_
      exact hret (-2) TT _ _ _ _ _ hW rfl rfl (by (try simp only [i32_le, Decidable.not_not] at c_1); (try simp only [i32_le, Decidable.not_not] at c_2); exact ⟨by first | (simp only [forceP, i32_le, c_1, c_2, if_true, if_false, not_false_eq_true, not_true_eq_false]; done) | (simp only [forceP, i32_le, c_1, c_2, if_true, if_false, not_false_eq_true, not_true_eq_false]; rfl), by first | (simp only [forceP, i32_le, c_1, c_2, if_true, if_false, not_false_eq_true, not_true_eq_false, va_up_eta, va_up_self, bx_uu]; done) | (simp only [forceP, i32_le, c_1, c_2, if_true, if_false, not_false_eq_true, not_true_eq_false, va_up_eta, va_up_self, bx_uu]; rfl)⟩) dX7_force_14
abbrev rm_yX7_asks : Room := { frames := 3, cells := 0, slots := 0, locals := 68 }
set_option maxHeartbeats 800000 in
set_option maxRecDepth 100000 in
theorem kX7_asks {l : Launch} {D : va_G} {cs : Nat → ClassId} {ad : Nat → Nat} {n : Nat} {ρ σ : Nat → Nat → Int32} {TT τ : Nat → Nat → Nat → Int32} {sz : Nat} {a pp : Int32} (hO : okO n TT τ σ) : XMi l yX7_asks cX7_asks 3 FieldType.int rm_yX7_asks [.ref (ad 0), .int a, .int pp] D cs ad n ρ TT τ σ sz (fun (r : Int32) (u : Nat → Nat → Int32) => r = asksP (xLx n τ) (TT 0) a pp) (fun u : Nat → Nat → Int32 => xent ad cs n u TT τ σ) := by
  refine gw_stI (Ff := fun u : Nat → Nat → Int32 => xent ad cs n u TT τ σ) (own := RX7) (by decide +kernel) rfl (Nat.le_of_ble_eq_true rfl) ?_
  intro p e s m ar below meth c A Q F hE hsz hW hret ls hl
  obtain ⟨hx, hb, hml, hown, hts⟩ := id F
  have hl : lv_has ls 3 [(0, .ref (ad 0)), (1, .int a), (2, .int pp)] := hl
  obtain ⟨hn1, hn6, hT, hX, hc, hnum⟩ := hO
  have hs6 := hT.1
  have hsN := hT.2.1
  have ht0 : (TT 0 6 3).toNatClampNeg < n := hT.2.2.1
  refine lv_iload_n hx hb dX7_asks_0 rfl (lv_at hl 1 rfl) ?_
  refine lv_if_lt (tgt := 20) hx hb dX7_asks_1 (by decide) (fun c_1 => ?_) (fun c_1 => ?_)
  ·
    refine lv_sipush (v := (-1000)) hx hb dX7_asks_20 (by decide) ?_
    exact hret (-1000) _ _ _ _ _ _ hW rfl rfl (by (try simp only [i32_le, Decidable.not_not] at c_1); first | (simp only [asksP, asksP, asksP, i32_le, c_1, if_true, if_false, not_false_eq_true, not_true_eq_false]; done) | simp [asksP, asksP, asksP, c_1, i32_le]) dX7_asks_23
  ·
    refine lv_iload_n hx hb dX7_asks_4 rfl (lv_at hl 1 rfl) ?_
    refine lv_iconst (v := 3) hx hb dX7_asks_5 (by decide) ?_
    refine lv_icmp_ge (tgt := 20) hx hb dX7_asks_6 (by decide) (fun c_2 => ?_) (fun c_2 => ?_)
    ·
      refine lv_sipush (v := (-1000)) hx hb dX7_asks_20 (by decide) ?_
      exact hret (-1000) _ _ _ _ _ _ hW rfl rfl (by (try simp only [i32_le, Decidable.not_not] at c_1); (try simp only [i32_le, Decidable.not_not] at c_2); first | (simp only [asksP, asksP, asksP, i32_le, c_1, c_2, if_true, if_false, not_false_eq_true, not_true_eq_false]; done) | simp [asksP, asksP, asksP, c_1, c_2, i32_le]) dX7_asks_23
    ·
      obtain ⟨pt, hpt, rfl⟩ := ge_nat (N := 3) c_1 c_2 (by decide); have hipt : iN (nI pt) = pt := iN_nI (by omega)
      refine lv_aload_n hx hb dX7_asks_9 rfl (lv_at hl 0 rfl) ?_
      refine xr_O F hW 5 (by decide) rfl fl_RX7_50 dX7_asks_10 ?_
      refine lv_iload_n hx hb dX7_asks_13 rfl (lv_at hl 2 rfl) ?_
      refine gw_callVi (As := [.int pp]) (rest := []) F hl.1 hW (fun _ _ hw => va_Nw.warmM hw hE) XE_E (by omega) (xe_T (b := 0) (by decide)) rfl (kX4_seatsOne (b := 0) (by decide)) pd_yX4_seatsOne ml_RX7_125 im_yX4_seatsOne se_yX4_seatsOne ini_RX4 cd_yX4_seatsOne ⟨rfl, rfl⟩ ⟨Nat.le_of_ble_eq_true rfl, Nat.le_of_ble_eq_true rfl⟩ rfl rfl (Nat.le_of_ble_eq_true rfl) ⟨Nat.zero_le _, Nat.zero_le _⟩ dX7_asks_14 (fun r u H locs hp hW _ _ => ?_)
      subst hp
      refine lv_as (z := oneP (TT 0) pp) rfl ?_
      refine lv_if_ne (tgt := 24) hx hb dX7_asks_17 (by decide) (fun c_3 => ?_) (fun c_3 => ?_)
      ·
        obtain ⟨q, hq, rfl⟩ := one_nat hT c_3; have hq6 : q < 6 := seats_le hT hq; have hiq : iN (nI q) = q := iN_nI (by omega); have hG := hT.2.2.2.2 q hq
        refine lv_aload_n hx hb dX7_asks_24 rfl (lv_at hl 0 rfl) ?_
        refine xr_O F hW 5 (by decide) rfl fl_RX7_50 dX7_asks_25 ?_
        refine xr_Tl (b := 0) F hW (by decide) fl_RX7_83 dX7_asks_28 ?_
        refine lv_iload_n hx hb dX7_asks_31 rfl (lv_at hl 1 rfl) ?_
        refine lv_aload_n hx hb dX7_asks_32 rfl (lv_at hl 0 rfl) ?_
        refine xr_O F hW 5 (by decide) rfl fl_RX7_50 dX7_asks_33 ?_
        refine xr_Tg (b := 0) F hW (by decide) fl_RX7_128 dX7_asks_36 ?_
        refine lv_iload_n hx hb dX7_asks_39 rfl (lv_at hl 2 rfl) ?_
        refine xr_Rn (b := 0) (q := q) rfl (by omega) F hW (by decide) dX7_asks_40 ?_
        refine lv_aload_n hx hb dX7_asks_41 rfl (lv_at hl 0 rfl) ?_
        refine xr_O F hW 5 (by decide) rfl fl_RX7_50 dX7_asks_42 ?_
        refine xr_Ti (b := 0) F hW (by decide) 2 (by decide) fl_RX7_70 dX7_asks_45 ?_
        refine gw_callVi (As := [.int (nI pt), .ref (ad (9 + 8 * 0 + 1 + 1 + q)), .int (TT 0 6 2)]) (rest := []) F hl.1 hW (fun _ _ hw => va_Nw.warmM hw hE) XE_E (by have := hT.2.2.1; unfold lawN at this; omega) (xe_X _) rfl (kX6_says (b := 0) (q := q) (t := (TT 0 6 3).toNatClampNeg) (pt := pt) (by decide) (by omega) hT.2.2.1 (by omega) hG.2.2.1 hX) pd_yX6_says ml_RX7_132 im_yX6_says se_yX6_says ini_RX6 cd_yX6_says ⟨rfl, rfl⟩ ⟨Nat.le_of_ble_eq_true rfl, Nat.le_of_ble_eq_true rfl⟩ rfl rfl (Nat.le_of_ble_eq_true rfl) ⟨Nat.zero_le _, Nat.zero_le _⟩ dX7_asks_48 (fun r ρ_4 H locs hp hW _ _ => ?_)
        subst hp
        refine lv_as (z := saysS (xLx n τ) (TT 0) pt q) (says_x hT.2.2.1 (by omega) rfl) ?_
        exact hret (saysS (xLx n τ) (TT 0) pt q) _ _ _ _ _ _ hW rfl rfl (by (try simp only [i32_le, Decidable.not_not] at c_1); (try simp only [i32_le, Decidable.not_not] at c_2); (try simp only [i32_le, Decidable.not_not] at c_3); first | (simp only [asksP, hipt, hiq, i32_le, c_1, c_2, c_3, if_true, if_false, not_false_eq_true, not_true_eq_false]; done) | simp [asksP, hipt, hiq, c_1, c_2, c_3, i32_le]) dX7_asks_51
      ·
        refine lv_sipush (v := (-1000)) hx hb dX7_asks_20 (by decide) ?_
        exact hret (-1000) _ _ _ _ _ _ hW rfl rfl (by (try simp only [i32_le, Decidable.not_not] at c_1); (try simp only [i32_le, Decidable.not_not] at c_2); (try simp only [i32_le, Decidable.not_not] at c_3); first | (simp only [asksP, hipt, asksP, i32_le, c_1, c_2, c_3, if_true, if_false, not_false_eq_true, not_true_eq_false]; done) | simp [asksP, hipt, asksP, c_1, c_2, c_3, i32_le]) dX7_asks_23
abbrev rm_yX7_guest : Room := { frames := 1, cells := 0, slots := 0, locals := 23 }
set_option maxHeartbeats 800000 in
set_option maxRecDepth 100000 in
theorem kX7_guest {l : Launch} {D : va_G} {cs : Nat → ClassId} {ad : Nat → Nat} {n : Nat} {ρ σ : Nat → Nat → Int32} {TT τ : Nat → Nat → Nat → Int32} {sz : Nat} {km w sh : Int32} (hO : okO n TT τ σ) : XMi l yX7_guest cX7_guest 4 FieldType.int rm_yX7_guest [.ref (ad 0), .int km, .int w, .int sh] D cs ad n ρ TT τ σ sz (fun (r : Int32) (u : Nat → Nat → Nat → Int32) => r = (guestP (TT 0) km w sh).1 ∧ u = va_up TT 0 (guestP (TT 0) km w sh).2) (fun u : Nat → Nat → Nat → Int32 => xent ad cs n ρ u τ σ) := by
  refine gw_stI (Ff := fun u : Nat → Nat → Nat → Int32 => xent ad cs n ρ u τ σ) (own := RX7) (by decide +kernel) rfl (Nat.le_of_ble_eq_true rfl) ?_
  intro p e s m ar below meth c A Q F hE hsz hW hret ls hl
  obtain ⟨hx, hb, hml, hown, hts⟩ := id F
  have hl : lv_has ls 4 [(0, .ref (ad 0)), (1, .int km), (2, .int w), (3, .int sh)] := hl
  obtain ⟨hn1, hn6, hT, hX, hc, hnum⟩ := hO
  have hs6 := hT.1
  have hsN := hT.2.1
  have ht0 : (TT 0 6 3).toNatClampNeg < n := hT.2.2.1
  refine lv_iload_n hx hb dX7_guest_0 rfl (lv_at hl 1 rfl) ?_
  refine lv_if_lt (tgt := 31) hx hb dX7_guest_1 (by decide) (fun c_1 => ?_) (fun c_1 => ?_)
  ·
    refine lv_bipush (v := (-2)) hx hb dX7_guest_31 (by decide) ?_
    exact hret (-2) TT _ _ _ _ _ hW rfl rfl (by (try simp only [i32_le, Decidable.not_not] at c_1); exact ⟨by first | (simp only [guestP, i32_le, c_1, if_true, if_false, not_false_eq_true, not_true_eq_false]; done) | (simp only [guestP, i32_le, c_1, if_true, if_false, not_false_eq_true, not_true_eq_false]; rfl), by first | (simp only [guestP, i32_le, c_1, if_true, if_false, not_false_eq_true, not_true_eq_false, va_up_eta, va_up_self, bx_uu]; done) | (simp only [guestP, i32_le, c_1, if_true, if_false, not_false_eq_true, not_true_eq_false, va_up_eta, va_up_self, bx_uu]; rfl)⟩) dX7_guest_33
  ·
    refine lv_iload_n hx hb dX7_guest_4 rfl (lv_at hl 1 rfl) ?_
    refine lv_bipush (v := 60) hx hb dX7_guest_5 (by decide) ?_
    refine lv_icmp_ge (tgt := 31) hx hb dX7_guest_7 (by decide) (fun c_2 => ?_) (fun c_2 => ?_)
    ·
      refine lv_bipush (v := (-2)) hx hb dX7_guest_31 (by decide) ?_
      exact hret (-2) TT _ _ _ _ _ hW rfl rfl (by (try simp only [i32_le, Decidable.not_not] at c_1); (try simp only [i32_le, Decidable.not_not] at c_2); exact ⟨by first | (simp only [guestP, i32_le, c_1, c_2, if_true, if_false, not_false_eq_true, not_true_eq_false]; done) | (simp only [guestP, i32_le, c_1, c_2, if_true, if_false, not_false_eq_true, not_true_eq_false]; rfl), by first | (simp only [guestP, i32_le, c_1, c_2, if_true, if_false, not_false_eq_true, not_true_eq_false, va_up_eta, va_up_self, bx_uu]; done) | (simp only [guestP, i32_le, c_1, c_2, if_true, if_false, not_false_eq_true, not_true_eq_false, va_up_eta, va_up_self, bx_uu]; rfl)⟩) dX7_guest_33
    ·
      refine lv_iload_n hx hb dX7_guest_10 rfl (lv_at hl 2 rfl) ?_
      refine lv_if_lt (tgt := 31) hx hb dX7_guest_11 (by decide) (fun c_3 => ?_) (fun c_3 => ?_)
      ·
        refine lv_bipush (v := (-2)) hx hb dX7_guest_31 (by decide) ?_
        exact hret (-2) TT _ _ _ _ _ hW rfl rfl (by (try simp only [i32_le, Decidable.not_not] at c_1); (try simp only [i32_le, Decidable.not_not] at c_2); (try simp only [i32_le, Decidable.not_not] at c_3); exact ⟨by first | (simp only [guestP, i32_le, c_1, c_2, c_3, if_true, if_false, not_false_eq_true, not_true_eq_false]; done) | (simp only [guestP, i32_le, c_1, c_2, c_3, if_true, if_false, not_false_eq_true, not_true_eq_false]; rfl), by first | (simp only [guestP, i32_le, c_1, c_2, c_3, if_true, if_false, not_false_eq_true, not_true_eq_false, va_up_eta, va_up_self, bx_uu]; done) | (simp only [guestP, i32_le, c_1, c_2, c_3, if_true, if_false, not_false_eq_true, not_true_eq_false, va_up_eta, va_up_self, bx_uu]; rfl)⟩) dX7_guest_33
      ·
        refine lv_iload_n hx hb dX7_guest_14 rfl (lv_at hl 2 rfl) ?_
        refine lv_sipush (v := 1023) hx hb dX7_guest_15 (by decide) ?_
        refine lv_icmp_gt (tgt := 31) hx hb dX7_guest_18 (by decide) (fun c_4 => ?_) (fun c_4 => ?_)
        ·
          refine lv_bipush (v := (-2)) hx hb dX7_guest_31 (by decide) ?_
          exact hret (-2) TT _ _ _ _ _ hW rfl rfl (by (try simp only [i32_le, Decidable.not_not] at c_1); (try simp only [i32_le, Decidable.not_not] at c_2); (try simp only [i32_le, Decidable.not_not] at c_3); (try simp only [i32_le, Decidable.not_not] at c_4); exact ⟨by first | (simp only [guestP, i32_le, c_1, c_2, c_3, c_4, if_true, if_false, not_false_eq_true, not_true_eq_false]; done) | (simp only [guestP, i32_le, c_1, c_2, c_3, c_4, if_true, if_false, not_false_eq_true, not_true_eq_false]; rfl), by first | (simp only [guestP, i32_le, c_1, c_2, c_3, c_4, if_true, if_false, not_false_eq_true, not_true_eq_false, va_up_eta, va_up_self, bx_uu]; done) | (simp only [guestP, i32_le, c_1, c_2, c_3, c_4, if_true, if_false, not_false_eq_true, not_true_eq_false, va_up_eta, va_up_self, bx_uu]; rfl)⟩) dX7_guest_33
        ·
          refine lv_iload_n hx hb dX7_guest_21 rfl (lv_at hl 3 rfl) ?_
          refine lv_if_lt (tgt := 31) hx hb dX7_guest_22 (by decide) (fun c_5 => ?_) (fun c_5 => ?_)
          ·
            refine lv_bipush (v := (-2)) hx hb dX7_guest_31 (by decide) ?_
            exact hret (-2) TT _ _ _ _ _ hW rfl rfl (by (try simp only [i32_le, Decidable.not_not] at c_1); (try simp only [i32_le, Decidable.not_not] at c_2); (try simp only [i32_le, Decidable.not_not] at c_3); (try simp only [i32_le, Decidable.not_not] at c_4); (try simp only [i32_le, Decidable.not_not] at c_5); exact ⟨by first | (simp only [guestP, i32_le, c_1, c_2, c_3, c_4, c_5, if_true, if_false, not_false_eq_true, not_true_eq_false]; done) | (simp only [guestP, i32_le, c_1, c_2, c_3, c_4, c_5, if_true, if_false, not_false_eq_true, not_true_eq_false]; rfl), by first | (simp only [guestP, i32_le, c_1, c_2, c_3, c_4, c_5, if_true, if_false, not_false_eq_true, not_true_eq_false, va_up_eta, va_up_self, bx_uu]; done) | (simp only [guestP, i32_le, c_1, c_2, c_3, c_4, c_5, if_true, if_false, not_false_eq_true, not_true_eq_false, va_up_eta, va_up_self, bx_uu]; rfl)⟩) dX7_guest_33
          ·
            refine lv_iload_n hx hb dX7_guest_25 rfl (lv_at hl 3 rfl) ?_
            refine lv_bipush (v := 99) hx hb dX7_guest_26 (by decide) ?_
            refine lv_icmp_le (tgt := 34) hx hb dX7_guest_28 (by decide) (fun c_6 => ?_) (fun c_6 => ?_)
            ·
              refine lv_aload_n hx hb dX7_guest_34 rfl (lv_at hl 0 rfl) ?_
              refine xr_O F hW 5 (by decide) rfl fl_RX7_50 dX7_guest_35 ?_
              refine xr_Ti (b := 0) F hW (by decide) 1 (by decide) fl_RX7_67 dX7_guest_38 ?_
              refine lv_bipush (v := 6) hx hb dX7_guest_41 (by decide) ?_
              refine lv_icmp_lt (tgt := 49) hx hb dX7_guest_43 (by decide) (fun c_7 => ?_) (fun c_7 => ?_)
              ·
                have hs5 : seatsN (TT 0) < 6 := mi_lt (b := 6) (by rw [← hsN]; exact c_7) (by omega) (by decide)
                refine lv_aload_n hx hb dX7_guest_49 rfl (lv_at hl 0 rfl) ?_
                refine xr_O F hW 5 (by decide) rfl fl_RX7_50 dX7_guest_50 ?_
                refine xr_Tg (b := 0) F hW (by decide) fl_RX7_128 dX7_guest_53 ?_
                refine lv_aload_n hx hb dX7_guest_56 rfl (lv_at hl 0 rfl) ?_
                refine xr_O F hW 5 (by decide) rfl fl_RX7_50 dX7_guest_57 ?_
                refine xr_Ti (b := 0) F hW (by decide) 1 (by decide) fl_RX7_67 dX7_guest_60 ?_
                refine xr_Rn (b := 0) (q := seatsN (TT 0)) hsN (by omega) F hW (by decide) dX7_guest_63 ?_
                refine lv_iload_n hx hb dX7_guest_64 rfl (lv_at hl 1 rfl) ?_
                refine lv_iload_n hx hb dX7_guest_65 rfl (lv_at hl 2 rfl) ?_
                refine lv_iload_n hx hb dX7_guest_66 rfl (lv_at hl 3 rfl) ?_
                refine gw_callVv (As := [.int km, .int w, .int sh]) (rest := []) F hl.1 hW (fun _ _ hw => va_Nw.warmM hw hE) XE_E (by omega) (xe_G (b := 0) (q := seatsN (TT 0)) (by decide) (by omega)) rfl (kX0_come (b := 0) (q := seatsN (TT 0)) (by decide) (by omega)) pd_yX0_come ml_RX7_136 im_yX0_come se_yX0_come ini_RX0 cd_yX0_come ⟨rfl, rfl⟩ ⟨Nat.le_of_ble_eq_true rfl, Nat.le_of_ble_eq_true rfl⟩ rfl rfl (Nat.le_of_ble_eq_true rfl) ⟨Nat.zero_le _, Nat.zero_le _⟩ dX7_guest_67 (fun TT_8 H locs hp hW _ _ => ?_)
                subst hp
                refine lv_aload_n hx hb dX7_guest_70 rfl (lv_at hl 0 rfl) ?_
                refine xr_O F hW 5 (by decide) rfl fl_RX7_50 dX7_guest_71 ?_
                refine lv_dup hx hb dX7_guest_74 rfl ?_
                refine xr_Ti (b := 0) F hW (by decide) 1 (by decide) fl_RX7_67 dX7_guest_75 ?_
                refine lv_iconst (v := 1) hx hb dX7_guest_78 (by decide) ?_
                refine lv_iadd hx hb dX7_guest_79 ?_
                refine xw_Ti (b := 0) F hW (by decide) 1 (by decide) fl_RX7_67 dX7_guest_80 (fun H locs hW => ?_)
                refine lv_aload_n hx hb dX7_guest_83 rfl (lv_at hl 0 rfl) ?_
                refine xr_O F hW 5 (by decide) rfl fl_RX7_50 dX7_guest_84 ?_
                refine xr_Ti (b := 0) F hW (by decide) 1 (by decide) fl_RX7_67 dX7_guest_87 ?_
                refine lv_iconst (v := 1) hx hb dX7_guest_90 (by decide) ?_
                refine lv_isub hx hb dX7_guest_91 ?_
                exact hret (((va_up (va_up TT 0 (va_up (TT 0) (seatsN (TT 0)) (comeR (TT 0 (seatsN (TT 0))) km w sh))) 0 (upT ((va_up TT 0 (va_up (TT 0) (seatsN (TT 0)) (comeR (TT 0 (seatsN (TT 0))) km w sh))) 0) 6 1 (((va_up TT 0 (va_up (TT 0) (seatsN (TT 0)) (comeR (TT 0 (seatsN (TT 0))) km w sh))) 0 6 1) + 1))) 0 6 1) - 1) (va_up (va_up TT 0 (va_up (TT 0) (seatsN (TT 0)) (comeR (TT 0 (seatsN (TT 0))) km w sh))) 0 (upT ((va_up TT 0 (va_up (TT 0) (seatsN (TT 0)) (comeR (TT 0 (seatsN (TT 0))) km w sh))) 0) 6 1 (((va_up TT 0 (va_up (TT 0) (seatsN (TT 0)) (comeR (TT 0 (seatsN (TT 0))) km w sh))) 0 6 1) + 1))) _ _ _ _ _ hW rfl rfl (by have e6 : ∀ R, va_up (TT 0) (seatsN (TT 0)) R 6 = TT 0 6 := fun R => va_up_ne _ _ (by omega); (try simp only [i32_le, Decidable.not_not] at c_1); (try simp only [i32_le, Decidable.not_not] at c_2); (try simp only [i32_le, Decidable.not_not] at c_3); (try simp only [i32_le, Decidable.not_not] at c_4); (try simp only [i32_le, Decidable.not_not] at c_5); (try simp only [i32_le, Decidable.not_not] at c_6); (try simp only [i32_le, Decidable.not_not] at c_7); exact ⟨by simp only [guestP, i32_le, c_1, c_2, c_3, c_4, c_5, c_6, c_7, if_true, if_false, not_false_eq_true, not_true_eq_false, va_up_self, upT, e6]; rfl, by simp only [guestP, i32_le, c_1, c_2, c_3, c_4, c_5, c_6, c_7, if_true, if_false, not_false_eq_true, not_true_eq_false, newG, va_up_self, bx_uu, e6]⟩) dX7_guest_92
              ·
                refine lv_bipush (v := (-4)) hx hb dX7_guest_46 (by decide) ?_
                exact hret (-4) TT _ _ _ _ _ hW rfl rfl (by (try simp only [i32_le, Decidable.not_not] at c_1); (try simp only [i32_le, Decidable.not_not] at c_2); (try simp only [i32_le, Decidable.not_not] at c_3); (try simp only [i32_le, Decidable.not_not] at c_4); (try simp only [i32_le, Decidable.not_not] at c_5); (try simp only [i32_le, Decidable.not_not] at c_6); (try simp only [i32_le, Decidable.not_not] at c_7); exact ⟨by first | (simp only [guestP, i32_le, c_1, c_2, c_3, c_4, c_5, c_6, c_7, if_true, if_false, not_false_eq_true, not_true_eq_false]; done) | (simp only [guestP, i32_le, c_1, c_2, c_3, c_4, c_5, c_6, c_7, if_true, if_false, not_false_eq_true, not_true_eq_false]; rfl), by first | (simp only [guestP, i32_le, c_1, c_2, c_3, c_4, c_5, c_6, c_7, if_true, if_false, not_false_eq_true, not_true_eq_false, va_up_eta, va_up_self, bx_uu]; done) | (simp only [guestP, i32_le, c_1, c_2, c_3, c_4, c_5, c_6, c_7, if_true, if_false, not_false_eq_true, not_true_eq_false, va_up_eta, va_up_self, bx_uu]; rfl)⟩) dX7_guest_48
            ·
              refine lv_bipush (v := (-2)) hx hb dX7_guest_31 (by decide) ?_
              exact hret (-2) TT _ _ _ _ _ hW rfl rfl (by (try simp only [i32_le, Decidable.not_not] at c_1); (try simp only [i32_le, Decidable.not_not] at c_2); (try simp only [i32_le, Decidable.not_not] at c_3); (try simp only [i32_le, Decidable.not_not] at c_4); (try simp only [i32_le, Decidable.not_not] at c_5); (try simp only [i32_le, Decidable.not_not] at c_6); exact ⟨by first | (simp only [guestP, i32_le, c_1, c_2, c_3, c_4, c_5, c_6, if_true, if_false, not_false_eq_true, not_true_eq_false]; done) | (simp only [guestP, i32_le, c_1, c_2, c_3, c_4, c_5, c_6, if_true, if_false, not_false_eq_true, not_true_eq_false]; rfl), by first | (simp only [guestP, i32_le, c_1, c_2, c_3, c_4, c_5, c_6, if_true, if_false, not_false_eq_true, not_true_eq_false, va_up_eta, va_up_self, bx_uu]; done) | (simp only [guestP, i32_le, c_1, c_2, c_3, c_4, c_5, c_6, if_true, if_false, not_false_eq_true, not_true_eq_false, va_up_eta, va_up_self, bx_uu]; rfl)⟩) dX7_guest_33
abbrev rm_yX7_put : Room := { frames := 1, cells := 0, slots := 0, locals := 22 }
set_option maxHeartbeats 800000 in
set_option maxRecDepth 100000 in
theorem kX7_put {l : Launch} {D : va_G} {cs : Nat → ClassId} {ad : Nat → Nat} {n : Nat} {ρ σ : Nat → Nat → Int32} {TT τ : Nat → Nat → Nat → Int32} {sz : Nat} {pp w v : Int32} (hO : okO n TT τ σ) : XMi l yX7_put cX7_put 6 FieldType.int rm_yX7_put [.ref (ad 0), .int pp, .int w, .int v] D cs ad n ρ TT τ σ sz (fun (r : Int32) (u : Nat → Nat → Nat → Int32) => r = (putP (TT 0) pp w v).1 ∧ u = va_up TT 0 (putP (TT 0) pp w v).2) (fun u : Nat → Nat → Nat → Int32 => xent ad cs n ρ u τ σ) := by
  refine gw_stI (Ff := fun u : Nat → Nat → Nat → Int32 => xent ad cs n ρ u τ σ) (own := RX7) (by decide +kernel) rfl (Nat.le_of_ble_eq_true rfl) ?_
  intro p e s m ar below meth c A Q F hE hsz hW hret ls hl
  obtain ⟨hx, hb, hml, hown, hts⟩ := id F
  have hl : lv_has ls 6 [(0, .ref (ad 0)), (1, .int pp), (2, .int w), (3, .int v)] := hl
  obtain ⟨hn1, hn6, hT, hX, hc, hnum⟩ := hO
  have hs6 := hT.1
  have hsN := hT.2.1
  have ht0 : (TT 0 6 3).toNatClampNeg < n := hT.2.2.1
  refine lv_aload_n hx hb dX7_put_0 rfl (lv_at hl 0 rfl) ?_
  refine xr_O F hW 5 (by decide) rfl fl_RX7_50 dX7_put_1 ?_
  refine lv_iload_n hx hb dX7_put_4 rfl (lv_at hl 1 rfl) ?_
  refine gw_callVi (As := [.int pp]) (rest := []) F hl.1 hW (fun _ _ hw => va_Nw.warmM hw hE) XE_E (by omega) (xe_T (b := 0) (by decide)) rfl (kX4_seatsOne (b := 0) (by decide)) pd_yX4_seatsOne ml_RX7_125 im_yX4_seatsOne se_yX4_seatsOne ini_RX4 cd_yX4_seatsOne ⟨rfl, rfl⟩ ⟨Nat.le_of_ble_eq_true rfl, Nat.le_of_ble_eq_true rfl⟩ rfl rfl (Nat.le_of_ble_eq_true rfl) ⟨Nat.zero_le _, Nat.zero_le _⟩ dX7_put_5 (fun r u H locs hp hW _ _ => ?_)
  subst hp
  refine lv_as (z := oneP (TT 0) pp) rfl ?_
  refine lv_if_ne (tgt := 14) hx hb dX7_put_8 (by decide) (fun c_1 => ?_) (fun c_1 => ?_)
  ·
    obtain ⟨q, hq, rfl⟩ := one_nat hT c_1; have hq6 : q < 6 := seats_le hT hq; have hiq : iN (nI q) = q := iN_nI (by omega); have hG := hT.2.2.2.2 q hq
    refine lv_iload_n hx hb dX7_put_14 rfl (lv_at hl 2 rfl) ?_
    refine lv_if_lt (tgt := 35) hx hb dX7_put_15 (by decide) (fun c_2 => ?_) (fun c_2 => ?_)
    ·
      refine lv_bipush (v := (-7)) hx hb dX7_put_35 (by decide) ?_
      exact hret (-7) TT _ _ _ _ _ hW rfl rfl (by (try simp only [i32_le, Decidable.not_not] at c_1); (try simp only [i32_le, Decidable.not_not] at c_2); exact ⟨by first | (simp only [putP, hiq, i32_le, c_1, c_2, if_true, if_false, not_false_eq_true, not_true_eq_false]; done) | (simp only [putP, hiq, i32_le, c_1, c_2, if_true, if_false, not_false_eq_true, not_true_eq_false]; rfl), by first | (simp only [putP, hiq, i32_le, c_1, c_2, if_true, if_false, not_false_eq_true, not_true_eq_false, va_up_eta, va_up_self, bx_uu]; done) | (simp only [putP, hiq, i32_le, c_1, c_2, if_true, if_false, not_false_eq_true, not_true_eq_false, va_up_eta, va_up_self, bx_uu]; rfl)⟩) dX7_put_37
    ·
      refine lv_iload_n hx hb dX7_put_18 rfl (lv_at hl 2 rfl) ?_
      refine lv_iconst (v := 4) hx hb dX7_put_19 (by decide) ?_
      refine lv_icmp_gt (tgt := 35) hx hb dX7_put_20 (by decide) (fun c_3 => ?_) (fun c_3 => ?_)
      ·
        refine lv_bipush (v := (-7)) hx hb dX7_put_35 (by decide) ?_
        exact hret (-7) TT _ _ _ _ _ hW rfl rfl (by (try simp only [i32_le, Decidable.not_not] at c_1); (try simp only [i32_le, Decidable.not_not] at c_2); (try simp only [i32_le, Decidable.not_not] at c_3); exact ⟨by first | (simp only [putP, hiq, i32_le, c_1, c_2, c_3, if_true, if_false, not_false_eq_true, not_true_eq_false]; done) | (simp only [putP, hiq, i32_le, c_1, c_2, c_3, if_true, if_false, not_false_eq_true, not_true_eq_false]; rfl), by first | (simp only [putP, hiq, i32_le, c_1, c_2, c_3, if_true, if_false, not_false_eq_true, not_true_eq_false, va_up_eta, va_up_self, bx_uu]; done) | (simp only [putP, hiq, i32_le, c_1, c_2, c_3, if_true, if_false, not_false_eq_true, not_true_eq_false, va_up_eta, va_up_self, bx_uu]; rfl)⟩) dX7_put_37
      ·
        refine lv_iload_n hx hb dX7_put_23 rfl (lv_at hl 3 rfl) ?_
        refine lv_if_lt (tgt := 35) hx hb dX7_put_24 (by decide) (fun c_4 => ?_) (fun c_4 => ?_)
        ·
          refine lv_bipush (v := (-7)) hx hb dX7_put_35 (by decide) ?_
          exact hret (-7) TT _ _ _ _ _ hW rfl rfl (by (try simp only [i32_le, Decidable.not_not] at c_1); (try simp only [i32_le, Decidable.not_not] at c_2); (try simp only [i32_le, Decidable.not_not] at c_3); (try simp only [i32_le, Decidable.not_not] at c_4); exact ⟨by first | (simp only [putP, hiq, i32_le, c_1, c_2, c_3, c_4, if_true, if_false, not_false_eq_true, not_true_eq_false]; done) | (simp only [putP, hiq, i32_le, c_1, c_2, c_3, c_4, if_true, if_false, not_false_eq_true, not_true_eq_false]; rfl), by first | (simp only [putP, hiq, i32_le, c_1, c_2, c_3, c_4, if_true, if_false, not_false_eq_true, not_true_eq_false, va_up_eta, va_up_self, bx_uu]; done) | (simp only [putP, hiq, i32_le, c_1, c_2, c_3, c_4, if_true, if_false, not_false_eq_true, not_true_eq_false, va_up_eta, va_up_self, bx_uu]; rfl)⟩) dX7_put_37
        ·
          refine lv_iload_n hx hb dX7_put_27 rfl (lv_at hl 3 rfl) ?_
          refine lv_iload_n hx hb dX7_put_28 rfl (lv_at hl 2 rfl) ?_
          refine gw_callP (As := [.int w]) (rest := [.int v]) F hl.1 (kX7_mostOf) pd_yX7_mostOf ml_RX7_142 st_yX7_mostOf ini_RX7 cd_yX7_mostOf ⟨rfl, rfl⟩ ⟨Nat.le_of_ble_eq_true rfl, Nat.le_of_ble_eq_true rfl⟩ rfl rfl (Nat.le_of_ble_eq_true rfl) ⟨Nat.zero_le _, Nat.zero_le _⟩ dX7_put_29 ?_
          refine lv_as (z := mostP w) rfl ?_
          refine lv_icmp_le (tgt := 38) hx hb dX7_put_32 (by decide) (fun c_5 => ?_) (fun c_5 => ?_)
          ·
            refine lv_aload_n hx hb dX7_put_38 rfl (lv_at hl 0 rfl) ?_
            refine xr_O F hW 5 (by decide) rfl fl_RX7_50 dX7_put_39 ?_
            refine xr_Tg (b := 0) F hW (by decide) fl_RX7_128 dX7_put_42 ?_
            refine lv_iload_n hx hb dX7_put_45 rfl (lv_at hl 1 rfl) ?_
            refine xr_Rn (b := 0) (q := q) rfl (by omega) F hW (by decide) dX7_put_46 ?_
            refine lv_astore (lv' := [(4, .ref (ad (9 + 8 * 0 + 1 + 1 + q))), (0, .ref (ad 0)), (1, .int (nI q)), (2, .int w), (3, .int v)]) hx hb dX7_put_47 hl (by decide) rfl (fun ls hl => ?_)
            refine lv_aload hx hb dX7_put_49 (lv_at hl 0 rfl) ?_
            refine lv_iload_n hx hb dX7_put_51 rfl (lv_at hl 3 rfl) ?_
            refine gw_callVi (As := [.int w]) (rest := []) F hl.1 hW (fun _ _ hw => va_Nw.warmM hw hE) XE_E (by omega) (xe_G (b := 0) (q := q) (by decide) (by omega)) rfl (kX0_stateOf (b := 0) (q := q) (by decide) (by omega)) pd_yX0_stateOf ml_RX7_145 im_yX0_stateOf se_yX0_stateOf ini_RX0 cd_yX0_stateOf ⟨rfl, rfl⟩ ⟨Nat.le_of_ble_eq_true rfl, Nat.le_of_ble_eq_true rfl⟩ rfl rfl (Nat.le_of_ble_eq_true rfl) ⟨Nat.zero_le _, Nat.zero_le _⟩ dX7_put_52 (fun r u H locs hp hW _ _ => ?_)
            subst hp
            refine lv_as (z := stateS ((TT 0) q) w) rfl ?_
            refine lv_topi (fun v_6 ev_6 => ?_)
            refine lv_istore (lv' := [(5, .int v_6), (4, .ref (ad (9 + 8 * 0 + 1 + 1 + q))), (0, .ref (ad 0)), (1, .int (nI q)), (2, .int w), (3, .int v)]) hx hb dX7_put_55 hl (by decide) rfl (fun ls hl => ?_)
            refine lv_aload hx hb dX7_put_57 (lv_at hl 1 rfl) ?_
            refine lv_iload_n hx hb dX7_put_59 rfl (lv_at hl 4 rfl) ?_
            refine lv_iload_n hx hb dX7_put_60 rfl (lv_at hl 5 rfl) ?_
            refine gw_callVv (As := [.int w, .int v]) (rest := []) F hl.1 hW (fun _ _ hw => va_Nw.warmM hw hE) XE_E (by omega) (xe_G (b := 0) (q := q) (by decide) (by omega)) rfl (kX0_setState (b := 0) (q := q) (by decide) (by omega)) pd_yX0_setState ml_RX7_148 im_yX0_setState se_yX0_setState ini_RX0 cd_yX0_setState ⟨rfl, rfl⟩ ⟨Nat.le_of_ble_eq_true rfl, Nat.le_of_ble_eq_true rfl⟩ rfl rfl (Nat.le_of_ble_eq_true rfl) ⟨Nat.zero_le _, Nat.zero_le _⟩ dX7_put_61 (fun TT_7 H locs hp hW _ _ => ?_)
            subst hp
            refine lv_iload hx hb dX7_put_64 (lv_at hl 0 rfl) ?_
            exact hret v_6 (va_up TT 0 (va_up (TT 0) q (setR ((TT 0) q) w v))) _ _ _ _ _ hW rfl rfl (by subst ev_6; (try simp only [i32_le, Decidable.not_not] at c_1); (try simp only [i32_le, Decidable.not_not] at c_2); (try simp only [i32_le, Decidable.not_not] at c_3); (try simp only [i32_le, Decidable.not_not] at c_4); (try simp only [i32_le, Decidable.not_not] at c_5); exact ⟨by first | (simp only [putP, hiq, i32_le, c_1, c_2, c_3, c_4, c_5, if_true, if_false, not_false_eq_true, not_true_eq_false]; done) | (simp only [putP, hiq, i32_le, c_1, c_2, c_3, c_4, c_5, if_true, if_false, not_false_eq_true, not_true_eq_false]; rfl), by first | (simp only [putP, hiq, i32_le, c_1, c_2, c_3, c_4, c_5, if_true, if_false, not_false_eq_true, not_true_eq_false, va_up_eta, va_up_self, bx_uu]; done) | (simp only [putP, hiq, i32_le, c_1, c_2, c_3, c_4, c_5, if_true, if_false, not_false_eq_true, not_true_eq_false, va_up_eta, va_up_self, bx_uu]; rfl)⟩) dX7_put_66
          ·
            refine lv_bipush (v := (-7)) hx hb dX7_put_35 (by decide) ?_
            exact hret (-7) TT _ _ _ _ _ hW rfl rfl (by (try simp only [i32_le, Decidable.not_not] at c_1); (try simp only [i32_le, Decidable.not_not] at c_2); (try simp only [i32_le, Decidable.not_not] at c_3); (try simp only [i32_le, Decidable.not_not] at c_4); (try simp only [i32_le, Decidable.not_not] at c_5); exact ⟨by first | (simp only [putP, hiq, i32_le, c_1, c_2, c_3, c_4, c_5, if_true, if_false, not_false_eq_true, not_true_eq_false]; done) | (simp only [putP, hiq, i32_le, c_1, c_2, c_3, c_4, c_5, if_true, if_false, not_false_eq_true, not_true_eq_false]; rfl), by first | (simp only [putP, hiq, i32_le, c_1, c_2, c_3, c_4, c_5, if_true, if_false, not_false_eq_true, not_true_eq_false, va_up_eta, va_up_self, bx_uu]; done) | (simp only [putP, hiq, i32_le, c_1, c_2, c_3, c_4, c_5, if_true, if_false, not_false_eq_true, not_true_eq_false, va_up_eta, va_up_self, bx_uu]; rfl)⟩) dX7_put_37
  ·
    refine lv_bipush (v := (-5)) hx hb dX7_put_11 (by decide) ?_
    exact hret (-5) TT _ _ _ _ _ hW rfl rfl (by (try simp only [i32_le, Decidable.not_not] at c_1); exact ⟨by first | (simp only [putP, i32_le, c_1, if_true, if_false, not_false_eq_true, not_true_eq_false]; done) | (simp only [putP, i32_le, c_1, if_true, if_false, not_false_eq_true, not_true_eq_false]; rfl), by first | (simp only [putP, i32_le, c_1, if_true, if_false, not_false_eq_true, not_true_eq_false, va_up_eta, va_up_self, bx_uu]; done) | (simp only [putP, i32_le, c_1, if_true, if_false, not_false_eq_true, not_true_eq_false, va_up_eta, va_up_self, bx_uu]; rfl)⟩) dX7_put_13
abbrev rm_yX7_told : Room := { frames := 5, cells := 0, slots := 0, locals := 113 }
set_option maxHeartbeats 800000 in
set_option maxRecDepth 100000 in
theorem kX7_told {l : Launch} {D : va_G} {cs : Nat → ClassId} {ad : Nat → Nat} {n : Nat} {ρ σ : Nat → Nat → Int32} {TT τ : Nat → Nat → Nat → Int32} {sz : Nat} {pp w : Int32} (hO : okO n TT τ σ) : XMi l yX7_told cX7_told 4 FieldType.int rm_yX7_told [.ref (ad 0), .int pp, .int w] D cs ad n ρ TT τ σ sz (fun (r : Int32) (u : Nat → Nat → Int32) => r = toldP (xLx n τ) (TT 0) pp w) (fun u : Nat → Nat → Int32 => xent ad cs n u TT τ σ) := by
  refine gw_stI (Ff := fun u : Nat → Nat → Int32 => xent ad cs n u TT τ σ) (own := RX7) (by decide +kernel) rfl (Nat.le_of_ble_eq_true rfl) ?_
  intro p e s m ar below meth c A Q F hE hsz hW hret ls hl
  obtain ⟨hx, hb, hml, hown, hts⟩ := id F
  have hl : lv_has ls 4 [(0, .ref (ad 0)), (1, .int pp), (2, .int w)] := hl
  obtain ⟨hn1, hn6, hT, hX, hc, hnum⟩ := hO
  have hs6 := hT.1
  have hsN := hT.2.1
  have ht0 : (TT 0 6 3).toNatClampNeg < n := hT.2.2.1
  refine lv_aload_n hx hb dX7_told_0 rfl (lv_at hl 0 rfl) ?_
  refine xr_O F hW 5 (by decide) rfl fl_RX7_50 dX7_told_1 ?_
  refine lv_iload_n hx hb dX7_told_4 rfl (lv_at hl 1 rfl) ?_
  refine gw_callVi (As := [.int pp]) (rest := []) F hl.1 hW (fun _ _ hw => va_Nw.warmM hw hE) XE_E (by omega) (xe_T (b := 0) (by decide)) rfl (kX4_seatsOne (b := 0) (by decide)) pd_yX4_seatsOne ml_RX7_125 im_yX4_seatsOne se_yX4_seatsOne ini_RX4 cd_yX4_seatsOne ⟨rfl, rfl⟩ ⟨Nat.le_of_ble_eq_true rfl, Nat.le_of_ble_eq_true rfl⟩ rfl rfl (Nat.le_of_ble_eq_true rfl) ⟨Nat.zero_le _, Nat.zero_le _⟩ dX7_told_5 (fun r u H locs hp hW _ _ => ?_)
  subst hp
  refine lv_as (z := oneP (TT 0) pp) rfl ?_
  refine lv_if_ne (tgt := 14) hx hb dX7_told_8 (by decide) (fun c_1 => ?_) (fun c_1 => ?_)
  ·
    obtain ⟨q, hq, rfl⟩ := one_nat hT c_1; have hq6 : q < 6 := seats_le hT hq; have hiq : iN (nI q) = q := iN_nI (by omega); have hG := hT.2.2.2.2 q hq
    refine lv_aload_n hx hb dX7_told_14 rfl (lv_at hl 0 rfl) ?_
    refine xr_O F hW 5 (by decide) rfl fl_RX7_50 dX7_told_15 ?_
    refine xr_Tg (b := 0) F hW (by decide) fl_RX7_128 dX7_told_18 ?_
    refine lv_iload_n hx hb dX7_told_21 rfl (lv_at hl 1 rfl) ?_
    refine xr_Rn (b := 0) (q := q) rfl (by omega) F hW (by decide) dX7_told_22 ?_
    refine lv_astore_n (lv' := [(3, .ref (ad (9 + 8 * 0 + 1 + 1 + q))), (0, .ref (ad 0)), (1, .int (nI q)), (2, .int w)]) hx hb dX7_told_23 rfl hl (by decide) rfl (fun ls hl => ?_)
    refine lv_iload_n hx hb dX7_told_24 rfl (lv_at hl 3 rfl) ?_
    by_cases c_2 : w = 0
    ·
      refine lv_tableIn (off := 55) (tgt := 80) hx hb dX7_told_25 (by rw [c_2]; decide) (by rw [c_2]; decide) (by rw [c_2]; rfl) (by decide) ?_
      refine lv_aload_n hx hb dX7_told_80 rfl (lv_at hl 0 rfl) ?_
      refine lv_iload_n hx hb dX7_told_81 rfl (lv_at hl 3 rfl) ?_
      refine gw_callVi (As := [.int w]) (rest := []) F hl.1 hW (fun _ _ hw => va_Nw.warmM hw hE) XE_E (by omega) (xe_G (b := 0) (q := q) (by decide) (by omega)) rfl (kX0_stateOf (b := 0) (q := q) (by decide) (by omega)) pd_yX0_stateOf ml_RX7_145 im_yX0_stateOf se_yX0_stateOf ini_RX0 cd_yX0_stateOf ⟨rfl, rfl⟩ ⟨Nat.le_of_ble_eq_true rfl, Nat.le_of_ble_eq_true rfl⟩ rfl rfl (Nat.le_of_ble_eq_true rfl) ⟨Nat.zero_le _, Nat.zero_le _⟩ dX7_told_82 (fun r u H locs hp hW _ _ => ?_)
      subst hp
      refine lv_as (z := stateS ((TT 0) q) w) rfl ?_
      exact hret (stateS ((TT 0) q) w) _ _ _ _ _ _ hW rfl rfl (by (try simp only [i32_le, Decidable.not_not] at c_1); (try simp only [i32_le, Decidable.not_not] at c_2); first | (simp only [toldP, hiq, i32_le, c_1, c_2, if_true, if_false, not_false_eq_true, not_true_eq_false]; done) | simp [toldP, hiq, c_1, c_2, i32_le]) dX7_told_85
    ·
      by_cases c_3 : w = 1
      ·
        refine lv_tableIn (off := 55) (tgt := 80) hx hb dX7_told_25 (by rw [c_3]; decide) (by rw [c_3]; decide) (by rw [c_3]; rfl) (by decide) ?_
        refine lv_aload_n hx hb dX7_told_80 rfl (lv_at hl 0 rfl) ?_
        refine lv_iload_n hx hb dX7_told_81 rfl (lv_at hl 3 rfl) ?_
        refine gw_callVi (As := [.int w]) (rest := []) F hl.1 hW (fun _ _ hw => va_Nw.warmM hw hE) XE_E (by omega) (xe_G (b := 0) (q := q) (by decide) (by omega)) rfl (kX0_stateOf (b := 0) (q := q) (by decide) (by omega)) pd_yX0_stateOf ml_RX7_145 im_yX0_stateOf se_yX0_stateOf ini_RX0 cd_yX0_stateOf ⟨rfl, rfl⟩ ⟨Nat.le_of_ble_eq_true rfl, Nat.le_of_ble_eq_true rfl⟩ rfl rfl (Nat.le_of_ble_eq_true rfl) ⟨Nat.zero_le _, Nat.zero_le _⟩ dX7_told_82 (fun r u H locs hp hW _ _ => ?_)
        subst hp
        refine lv_as (z := stateS ((TT 0) q) w) rfl ?_
        exact hret (stateS ((TT 0) q) w) _ _ _ _ _ _ hW rfl rfl (by (try simp only [i32_le, Decidable.not_not] at c_1); (try simp only [i32_le, Decidable.not_not] at c_2); (try simp only [i32_le, Decidable.not_not] at c_3); first | (simp only [toldP, hiq, i32_le, c_1, c_2, c_3, if_true, if_false, not_false_eq_true, not_true_eq_false]; done) | simp [toldP, hiq, c_1, c_2, c_3, i32_le]) dX7_told_85
      ·
        by_cases c_4 : w = 2
        ·
          refine lv_tableIn (off := 55) (tgt := 80) hx hb dX7_told_25 (by rw [c_4]; decide) (by rw [c_4]; decide) (by rw [c_4]; rfl) (by decide) ?_
          refine lv_aload_n hx hb dX7_told_80 rfl (lv_at hl 0 rfl) ?_
          refine lv_iload_n hx hb dX7_told_81 rfl (lv_at hl 3 rfl) ?_
          refine gw_callVi (As := [.int w]) (rest := []) F hl.1 hW (fun _ _ hw => va_Nw.warmM hw hE) XE_E (by omega) (xe_G (b := 0) (q := q) (by decide) (by omega)) rfl (kX0_stateOf (b := 0) (q := q) (by decide) (by omega)) pd_yX0_stateOf ml_RX7_145 im_yX0_stateOf se_yX0_stateOf ini_RX0 cd_yX0_stateOf ⟨rfl, rfl⟩ ⟨Nat.le_of_ble_eq_true rfl, Nat.le_of_ble_eq_true rfl⟩ rfl rfl (Nat.le_of_ble_eq_true rfl) ⟨Nat.zero_le _, Nat.zero_le _⟩ dX7_told_82 (fun r u H locs hp hW _ _ => ?_)
          subst hp
          refine lv_as (z := stateS ((TT 0) q) w) rfl ?_
          exact hret (stateS ((TT 0) q) w) _ _ _ _ _ _ hW rfl rfl (by (try simp only [i32_le, Decidable.not_not] at c_1); (try simp only [i32_le, Decidable.not_not] at c_2); (try simp only [i32_le, Decidable.not_not] at c_3); (try simp only [i32_le, Decidable.not_not] at c_4); first | (simp only [toldP, hiq, i32_le, c_1, c_2, c_3, c_4, if_true, if_false, not_false_eq_true, not_true_eq_false]; done) | simp [toldP, hiq, c_1, c_2, c_3, c_4, i32_le]) dX7_told_85
        ·
          by_cases c_5 : w = 3
          ·
            refine lv_tableIn (off := 55) (tgt := 80) hx hb dX7_told_25 (by rw [c_5]; decide) (by rw [c_5]; decide) (by rw [c_5]; rfl) (by decide) ?_
            refine lv_aload_n hx hb dX7_told_80 rfl (lv_at hl 0 rfl) ?_
            refine lv_iload_n hx hb dX7_told_81 rfl (lv_at hl 3 rfl) ?_
            refine gw_callVi (As := [.int w]) (rest := []) F hl.1 hW (fun _ _ hw => va_Nw.warmM hw hE) XE_E (by omega) (xe_G (b := 0) (q := q) (by decide) (by omega)) rfl (kX0_stateOf (b := 0) (q := q) (by decide) (by omega)) pd_yX0_stateOf ml_RX7_145 im_yX0_stateOf se_yX0_stateOf ini_RX0 cd_yX0_stateOf ⟨rfl, rfl⟩ ⟨Nat.le_of_ble_eq_true rfl, Nat.le_of_ble_eq_true rfl⟩ rfl rfl (Nat.le_of_ble_eq_true rfl) ⟨Nat.zero_le _, Nat.zero_le _⟩ dX7_told_82 (fun r u H locs hp hW _ _ => ?_)
            subst hp
            refine lv_as (z := stateS ((TT 0) q) w) rfl ?_
            exact hret (stateS ((TT 0) q) w) _ _ _ _ _ _ hW rfl rfl (by (try simp only [i32_le, Decidable.not_not] at c_1); (try simp only [i32_le, Decidable.not_not] at c_2); (try simp only [i32_le, Decidable.not_not] at c_3); (try simp only [i32_le, Decidable.not_not] at c_4); (try simp only [i32_le, Decidable.not_not] at c_5); first | (simp only [toldP, hiq, i32_le, c_1, c_2, c_3, c_4, c_5, if_true, if_false, not_false_eq_true, not_true_eq_false]; done) | simp [toldP, hiq, c_1, c_2, c_3, c_4, c_5, i32_le]) dX7_told_85
          ·
            by_cases c_6 : w = 4
            ·
              refine lv_tableIn (off := 55) (tgt := 80) hx hb dX7_told_25 (by rw [c_6]; decide) (by rw [c_6]; decide) (by rw [c_6]; rfl) (by decide) ?_
              refine lv_aload_n hx hb dX7_told_80 rfl (lv_at hl 0 rfl) ?_
              refine lv_iload_n hx hb dX7_told_81 rfl (lv_at hl 3 rfl) ?_
              refine gw_callVi (As := [.int w]) (rest := []) F hl.1 hW (fun _ _ hw => va_Nw.warmM hw hE) XE_E (by omega) (xe_G (b := 0) (q := q) (by decide) (by omega)) rfl (kX0_stateOf (b := 0) (q := q) (by decide) (by omega)) pd_yX0_stateOf ml_RX7_145 im_yX0_stateOf se_yX0_stateOf ini_RX0 cd_yX0_stateOf ⟨rfl, rfl⟩ ⟨Nat.le_of_ble_eq_true rfl, Nat.le_of_ble_eq_true rfl⟩ rfl rfl (Nat.le_of_ble_eq_true rfl) ⟨Nat.zero_le _, Nat.zero_le _⟩ dX7_told_82 (fun r u H locs hp hW _ _ => ?_)
              subst hp
              refine lv_as (z := stateS ((TT 0) q) w) rfl ?_
              exact hret (stateS ((TT 0) q) w) _ _ _ _ _ _ hW rfl rfl (by (try simp only [i32_le, Decidable.not_not] at c_1); (try simp only [i32_le, Decidable.not_not] at c_2); (try simp only [i32_le, Decidable.not_not] at c_3); (try simp only [i32_le, Decidable.not_not] at c_4); (try simp only [i32_le, Decidable.not_not] at c_5); (try simp only [i32_le, Decidable.not_not] at c_6); first | (simp only [toldP, hiq, i32_le, c_1, c_2, c_3, c_4, c_5, c_6, if_true, if_false, not_false_eq_true, not_true_eq_false]; done) | simp [toldP, hiq, c_1, c_2, c_3, c_4, c_5, c_6, i32_le]) dX7_told_85
            ·
              by_cases c_7 : w = 5
              ·
                refine lv_tableIn (off := 61) (tgt := 86) hx hb dX7_told_25 (by rw [c_7]; decide) (by rw [c_7]; decide) (by rw [c_7]; rfl) (by decide) ?_
                refine lv_aload_n hx hb dX7_told_86 rfl (lv_at hl 0 rfl) ?_
                refine xr_G (b := 0) (q := q) F hW (by decide) (by omega) 0 (by decide) fl_RX7_152 dX7_told_87 ?_
                exact hret (TT 0 q 0) _ _ _ _ _ _ hW rfl rfl (by (try simp only [i32_le, Decidable.not_not] at c_1); (try simp only [i32_le, Decidable.not_not] at c_2); (try simp only [i32_le, Decidable.not_not] at c_3); (try simp only [i32_le, Decidable.not_not] at c_4); (try simp only [i32_le, Decidable.not_not] at c_5); (try simp only [i32_le, Decidable.not_not] at c_6); (try simp only [i32_le, Decidable.not_not] at c_7); first | (simp only [toldP, hiq, i32_le, c_1, c_2, c_3, c_4, c_5, c_6, c_7, if_true, if_false, not_false_eq_true, not_true_eq_false]; done) | simp [toldP, hiq, c_1, c_2, c_3, c_4, c_5, c_6, c_7, i32_le]) dX7_told_90
              ·
                by_cases c_8 : w = 6
                ·
                  refine lv_tableIn (off := 66) (tgt := 91) hx hb dX7_told_25 (by rw [c_8]; decide) (by rw [c_8]; decide) (by rw [c_8]; rfl) (by decide) ?_
                  refine lv_aload_n hx hb dX7_told_91 rfl (lv_at hl 0 rfl) ?_
                  refine xr_G (b := 0) (q := q) F hW (by decide) (by omega) 1 (by decide) fl_RX7_155 dX7_told_92 ?_
                  exact hret (TT 0 q 1) _ _ _ _ _ _ hW rfl rfl (by (try simp only [i32_le, Decidable.not_not] at c_1); (try simp only [i32_le, Decidable.not_not] at c_2); (try simp only [i32_le, Decidable.not_not] at c_3); (try simp only [i32_le, Decidable.not_not] at c_4); (try simp only [i32_le, Decidable.not_not] at c_5); (try simp only [i32_le, Decidable.not_not] at c_6); (try simp only [i32_le, Decidable.not_not] at c_7); (try simp only [i32_le, Decidable.not_not] at c_8); first | (simp only [toldP, hiq, i32_le, c_1, c_2, c_3, c_4, c_5, c_6, c_7, c_8, if_true, if_false, not_false_eq_true, not_true_eq_false]; done) | simp [toldP, hiq, c_1, c_2, c_3, c_4, c_5, c_6, c_7, c_8, i32_le]) dX7_told_95
                ·
                  by_cases c_9 : w = 7
                  ·
                    refine lv_tableIn (off := 71) (tgt := 96) hx hb dX7_told_25 (by rw [c_9]; decide) (by rw [c_9]; decide) (by rw [c_9]; rfl) (by decide) ?_
                    refine lv_aload_n hx hb dX7_told_96 rfl (lv_at hl 1 rfl) ?_
                    refine xr_O F hW 5 (by decide) rfl fl_RX7_50 dX7_told_97 ?_
                    refine lv_aload_n hx hb dX7_told_100 rfl (lv_at hl 0 rfl) ?_
                    refine gw_callVi (As := [.ref (ad (9 + 8 * 0 + 1 + 1 + q))]) (rest := []) F hl.1 hW (fun _ _ hw => va_Nw.warmM hw hE) XE_E (by omega) (xe_T (b := 0) (by decide)) rfl (kX4_actOf (b := 0) (q := q) (by decide) hT hq hX) pd_yX4_actOf ml_RX7_158 im_yX4_actOf se_yX4_actOf ini_RX4 cd_yX4_actOf ⟨rfl, rfl⟩ ⟨Nat.le_of_ble_eq_true rfl, Nat.le_of_ble_eq_true rfl⟩ rfl rfl (Nat.le_of_ble_eq_true rfl) ⟨Nat.zero_le _, Nat.zero_le _⟩ dX7_told_101 (fun r ρ_10 H locs hp hW _ _ => ?_)
                    subst hp
                    exact hret (actS (xLx n τ) (TT 0) q) _ _ _ _ _ _ hW rfl rfl (by (try simp only [i32_le, Decidable.not_not] at c_1); (try simp only [i32_le, Decidable.not_not] at c_2); (try simp only [i32_le, Decidable.not_not] at c_3); (try simp only [i32_le, Decidable.not_not] at c_4); (try simp only [i32_le, Decidable.not_not] at c_5); (try simp only [i32_le, Decidable.not_not] at c_6); (try simp only [i32_le, Decidable.not_not] at c_7); (try simp only [i32_le, Decidable.not_not] at c_8); (try simp only [i32_le, Decidable.not_not] at c_9); first | (simp only [toldP, hiq, i32_le, c_1, c_2, c_3, c_4, c_5, c_6, c_7, c_8, c_9, if_true, if_false, not_false_eq_true, not_true_eq_false]; done) | simp [toldP, hiq, c_1, c_2, c_3, c_4, c_5, c_6, c_7, c_8, c_9, i32_le]) dX7_told_104
                  ·
                    by_cases c_11 : w = 8
                    ·
                      refine lv_tableIn (off := 80) (tgt := 105) hx hb dX7_told_25 (by rw [c_11]; decide) (by rw [c_11]; decide) (by rw [c_11]; rfl) (by decide) ?_
                      refine lv_aload_n hx hb dX7_told_105 rfl (lv_at hl 1 rfl) ?_
                      refine xr_O F hW 5 (by decide) rfl fl_RX7_50 dX7_told_106 ?_
                      refine lv_aload_n hx hb dX7_told_109 rfl (lv_at hl 0 rfl) ?_
                      refine gw_callVi (As := [.ref (ad (9 + 8 * 0 + 1 + 1 + q))]) (rest := []) F hl.1 hW (fun _ _ hw => va_Nw.warmM hw hE) XE_E (by omega) (xe_T (b := 0) (by decide)) rfl (kX4_isStuck (b := 0) (q := q) (by decide) hT hq hX) pd_yX4_isStuck ml_RX7_162 im_yX4_isStuck se_yX4_isStuck ini_RX4 cd_yX4_isStuck ⟨rfl, rfl⟩ ⟨Nat.le_of_ble_eq_true rfl, Nat.le_of_ble_eq_true rfl⟩ rfl rfl (Nat.le_of_ble_eq_true rfl) ⟨Nat.zero_le _, Nat.zero_le _⟩ dX7_told_110 (fun r ρ_12 H locs hp hW _ _ => ?_)
                      subst hp
                      refine lv_if_eq (tgt := 120) hx hb dX7_told_113 (by decide) (fun c_13 => ?_) (fun c_13 => ?_)
                      ·
                        refine lv_iconst (v := 0) hx hb dX7_told_120 (by decide) ?_
                        exact hret 0 _ _ _ _ _ _ hW rfl rfl (by (try simp only [i32_le, Decidable.not_not] at c_1); (try simp only [i32_le, Decidable.not_not] at c_2); (try simp only [i32_le, Decidable.not_not] at c_3); (try simp only [i32_le, Decidable.not_not] at c_4); (try simp only [i32_le, Decidable.not_not] at c_5); (try simp only [i32_le, Decidable.not_not] at c_6); (try simp only [i32_le, Decidable.not_not] at c_7); (try simp only [i32_le, Decidable.not_not] at c_8); (try simp only [i32_le, Decidable.not_not] at c_9); (try simp only [i32_le, Decidable.not_not] at c_11); (try simp only [i32_le, Decidable.not_not] at c_13); first | (simp only [toldP, hiq, i32_le, c_1, c_2, c_3, c_4, c_5, c_6, c_7, c_8, c_9, c_11, c_13, if_true, if_false, not_false_eq_true, not_true_eq_false]; done) | simp [toldP, hiq, c_1, c_2, c_3, c_4, c_5, c_6, c_7, c_8, c_9, c_11, c_13, i32_le]) dX7_told_121
                      ·
                        refine lv_iconst (v := 1) hx hb dX7_told_116 (by decide) ?_
                        refine lv_goto (tgt := 121) hx hb dX7_told_117 (by decide) ?_
                        exact hret 1 _ _ _ _ _ _ hW rfl rfl (by (try simp only [i32_le, Decidable.not_not] at c_1); (try simp only [i32_le, Decidable.not_not] at c_2); (try simp only [i32_le, Decidable.not_not] at c_3); (try simp only [i32_le, Decidable.not_not] at c_4); (try simp only [i32_le, Decidable.not_not] at c_5); (try simp only [i32_le, Decidable.not_not] at c_6); (try simp only [i32_le, Decidable.not_not] at c_7); (try simp only [i32_le, Decidable.not_not] at c_8); (try simp only [i32_le, Decidable.not_not] at c_9); (try simp only [i32_le, Decidable.not_not] at c_11); (try simp only [i32_le, Decidable.not_not] at c_13); first | (simp only [toldP, hiq, i32_le, c_1, c_2, c_3, c_4, c_5, c_6, c_7, c_8, c_9, c_11, c_13, if_true, if_false, not_false_eq_true, not_true_eq_false]; done) | simp [toldP, hiq, c_1, c_2, c_3, c_4, c_5, c_6, c_7, c_8, c_9, c_11, c_13, i32_le]) dX7_told_121
                    ·
                      by_cases c_14 : w = 9
                      ·
                        refine lv_tableIn (off := 97) (tgt := 122) hx hb dX7_told_25 (by rw [c_14]; decide) (by rw [c_14]; decide) (by rw [c_14]; rfl) (by decide) ?_
                        refine lv_aload_n hx hb dX7_told_122 rfl (lv_at hl 1 rfl) ?_
                        refine xr_O F hW 5 (by decide) rfl fl_RX7_50 dX7_told_123 ?_
                        refine lv_iload_n hx hb dX7_told_126 rfl (lv_at hl 2 rfl) ?_
                        refine gw_callVi (As := [.int (nI q)]) (rest := []) F hl.1 hW (fun _ _ hw => va_Nw.warmM hw hE) XE_E (by omega) (xe_T (b := 0) (by decide)) rfl (kX4_toldBy (b := 0) (q := q) (by decide) hT hq hX) pd_yX4_toldBy ml_RX7_166 im_yX4_toldBy se_yX4_toldBy ini_RX4 cd_yX4_toldBy ⟨rfl, rfl⟩ ⟨Nat.le_of_ble_eq_true rfl, Nat.le_of_ble_eq_true rfl⟩ rfl rfl (Nat.le_of_ble_eq_true rfl) ⟨Nat.zero_le _, Nat.zero_le _⟩ dX7_told_127 (fun r ρ_15 H locs hp hW _ _ => ?_)
                        subst hp
                        exact hret (tellS (xLx n τ) (TT 0) q) _ _ _ _ _ _ hW rfl rfl (by (try simp only [i32_le, Decidable.not_not] at c_1); (try simp only [i32_le, Decidable.not_not] at c_2); (try simp only [i32_le, Decidable.not_not] at c_3); (try simp only [i32_le, Decidable.not_not] at c_4); (try simp only [i32_le, Decidable.not_not] at c_5); (try simp only [i32_le, Decidable.not_not] at c_6); (try simp only [i32_le, Decidable.not_not] at c_7); (try simp only [i32_le, Decidable.not_not] at c_8); (try simp only [i32_le, Decidable.not_not] at c_9); (try simp only [i32_le, Decidable.not_not] at c_11); (try simp only [i32_le, Decidable.not_not] at c_14); first | (simp only [toldP, hiq, i32_le, c_1, c_2, c_3, c_4, c_5, c_6, c_7, c_8, c_9, c_11, c_14, if_true, if_false, not_false_eq_true, not_true_eq_false]; done) | simp [toldP, hiq, c_1, c_2, c_3, c_4, c_5, c_6, c_7, c_8, c_9, c_11, c_14, i32_le]) dX7_told_130
                      ·
                        refine lv_tableOut (tgt := 131) hx hb dX7_told_25 (tb_out10_0 c_2 c_3 c_4 c_5 c_6 c_7 c_8 c_9 c_11 c_14) (by decide) ?_
                        refine lv_bipush (v := (-7)) hx hb dX7_told_131 (by decide) ?_
                        exact hret (-7) _ _ _ _ _ _ hW rfl rfl (by (try simp only [i32_le, Decidable.not_not] at c_1); (try simp only [i32_le, Decidable.not_not] at c_2); (try simp only [i32_le, Decidable.not_not] at c_3); (try simp only [i32_le, Decidable.not_not] at c_4); (try simp only [i32_le, Decidable.not_not] at c_5); (try simp only [i32_le, Decidable.not_not] at c_6); (try simp only [i32_le, Decidable.not_not] at c_7); (try simp only [i32_le, Decidable.not_not] at c_8); (try simp only [i32_le, Decidable.not_not] at c_9); (try simp only [i32_le, Decidable.not_not] at c_11); (try simp only [i32_le, Decidable.not_not] at c_14); first | (simp only [toldP, hiq, i32_le, c_1, c_2, c_3, c_4, c_5, c_6, c_7, c_8, c_9, c_11, c_14, if_true, if_false, not_false_eq_true, not_true_eq_false]; done) | simp [toldP, hiq, c_1, c_2, c_3, c_4, c_5, c_6, c_7, c_8, c_9, c_11, c_14, i32_le]) dX7_told_133
  ·
    refine lv_bipush (v := (-5)) hx hb dX7_told_11 (by decide) ?_
    exact hret (-5) _ _ _ _ _ _ hW rfl rfl (by (try simp only [i32_le, Decidable.not_not] at c_1); first | (simp only [toldP, i32_le, c_1, if_true, if_false, not_false_eq_true, not_true_eq_false]; done) | simp [toldP, c_1, i32_le]) dX7_told_13
abbrev rm_yX7_manners : Room := { frames := 4, cells := 0, slots := 0, locals := 91 }
set_option maxHeartbeats 800000 in
set_option maxRecDepth 100000 in
theorem kX7_manners {l : Launch} {D : va_G} {cs : Nat → ClassId} {ad : Nat → Nat} {n : Nat} {ρ σ : Nat → Nat → Int32} {TT τ : Nat → Nat → Nat → Int32} {sz : Nat} {pp a w : Int32} (hO : okO n TT τ σ) : XMi l yX7_manners cX7_manners 4 FieldType.int rm_yX7_manners [.ref (ad 0), .int pp, .int a, .int w] D cs ad n ρ TT τ σ sz (fun (r : Int32) (u : Nat → Nat → Int32) => r = mannersP (xLx n τ) (TT 0) pp a w) (fun u : Nat → Nat → Int32 => xent ad cs n u TT τ σ) := by
  refine gw_stI (Ff := fun u : Nat → Nat → Int32 => xent ad cs n u TT τ σ) (own := RX7) (by decide +kernel) rfl (Nat.le_of_ble_eq_true rfl) ?_
  intro p e s m ar below meth c A Q F hE hsz hW hret ls hl
  obtain ⟨hx, hb, hml, hown, hts⟩ := id F
  have hl : lv_has ls 4 [(0, .ref (ad 0)), (1, .int pp), (2, .int a), (3, .int w)] := hl
  obtain ⟨hn1, hn6, hT, hX, hc, hnum⟩ := hO
  have hs6 := hT.1
  have hsN := hT.2.1
  have ht0 : (TT 0 6 3).toNatClampNeg < n := hT.2.2.1
  refine lv_aload_n hx hb dX7_manners_0 rfl (lv_at hl 0 rfl) ?_
  refine xr_O F hW 5 (by decide) rfl fl_RX7_50 dX7_manners_1 ?_
  refine lv_iload_n hx hb dX7_manners_4 rfl (lv_at hl 1 rfl) ?_
  refine gw_callVi (As := [.int pp]) (rest := []) F hl.1 hW (fun _ _ hw => va_Nw.warmM hw hE) XE_E (by omega) (xe_T (b := 0) (by decide)) rfl (kX4_seatsOne (b := 0) (by decide)) pd_yX4_seatsOne ml_RX7_125 im_yX4_seatsOne se_yX4_seatsOne ini_RX4 cd_yX4_seatsOne ⟨rfl, rfl⟩ ⟨Nat.le_of_ble_eq_true rfl, Nat.le_of_ble_eq_true rfl⟩ rfl rfl (Nat.le_of_ble_eq_true rfl) ⟨Nat.zero_le _, Nat.zero_le _⟩ dX7_manners_5 (fun r u H locs hp hW _ _ => ?_)
  subst hp
  refine lv_as (z := oneP (TT 0) pp) rfl ?_
  refine lv_if_ne (tgt := 14) hx hb dX7_manners_8 (by decide) (fun c_1 => ?_) (fun c_1 => ?_)
  ·
    obtain ⟨q, hq, rfl⟩ := one_nat hT c_1; have hq6 : q < 6 := seats_le hT hq; have hiq : iN (nI q) = q := iN_nI (by omega); have hG := hT.2.2.2.2 q hq
    refine lv_iload_n hx hb dX7_manners_14 rfl (lv_at hl 2 rfl) ?_
    refine lv_if_lt (tgt := 24) hx hb dX7_manners_15 (by decide) (fun c_2 => ?_) (fun c_2 => ?_)
    ·
      refine lv_bipush (v := (-6)) hx hb dX7_manners_24 (by decide) ?_
      exact hret (-6) _ _ _ _ _ _ hW rfl rfl (by (try simp only [i32_le, Decidable.not_not] at c_1); (try simp only [i32_le, Decidable.not_not] at c_2); first | (simp only [mannersP, hiq, i32_le, c_1, c_2, if_true, if_false, not_false_eq_true, not_true_eq_false]; done) | simp [mannersP, hiq, c_1, c_2, i32_le]) dX7_manners_26
    ·
      refine lv_iload_n hx hb dX7_manners_18 rfl (lv_at hl 2 rfl) ?_
      refine lv_bipush (v := 10) hx hb dX7_manners_19 (by decide) ?_
      refine lv_icmp_lt (tgt := 27) hx hb dX7_manners_21 (by decide) (fun c_3 => ?_) (fun c_3 => ?_)
      ·
        refine lv_iload_n hx hb dX7_manners_27 rfl (lv_at hl 3 rfl) ?_
        by_cases c_4 : w = 0
        ·
          refine lv_lookup (off := 28) (tgt := 56) hx hb dX7_manners_28 (by decide) (by rw [c_4]; rfl) (by decide) ?_
          refine lv_aload_n hx hb dX7_manners_56 rfl (lv_at hl 0 rfl) ?_
          refine xr_O F hW 5 (by decide) rfl fl_RX7_50 dX7_manners_57 ?_
          refine lv_aload_n hx hb dX7_manners_60 rfl (lv_at hl 0 rfl) ?_
          refine xr_O F hW 5 (by decide) rfl fl_RX7_50 dX7_manners_61 ?_
          refine xr_Tg (b := 0) F hW (by decide) fl_RX7_128 dX7_manners_64 ?_
          refine lv_iload_n hx hb dX7_manners_67 rfl (lv_at hl 1 rfl) ?_
          refine xr_Rn (b := 0) (q := q) rfl (by omega) F hW (by decide) dX7_manners_68 ?_
          refine gw_callVi (As := [.ref (ad (9 + 8 * 0 + 1 + 1 + q))]) (rest := []) F hl.1 hW (fun _ _ hw => va_Nw.warmM hw hE) XE_E (by omega) (xe_T (b := 0) (by decide)) rfl (kX4_minded (b := 0) (q := q) (by decide) hT hq hX) pd_yX4_minded ml_RX7_169 im_yX4_minded se_yX4_minded ini_RX4 cd_yX4_minded ⟨rfl, rfl⟩ ⟨Nat.le_of_ble_eq_true rfl, Nat.le_of_ble_eq_true rfl⟩ rfl rfl (Nat.le_of_ble_eq_true rfl) ⟨Nat.zero_le _, Nat.zero_le _⟩ dX7_manners_69 (fun r ρ_5 H locs hp hW _ _ => ?_)
          subst hp
          refine lv_iload_n hx hb dX7_manners_72 rfl (lv_at hl 2 rfl) ?_
          refine gw_callP (As := [.int (mindS (xLx n τ) (TT 0) q), .int a]) (rest := []) F hl.1 (kX7_holds) pd_yX7_holds ml_RX7_172 st_yX7_holds ini_RX7 cd_yX7_holds ⟨rfl, rfl⟩ ⟨Nat.le_of_ble_eq_true rfl, Nat.le_of_ble_eq_true rfl⟩ rfl rfl (Nat.le_of_ble_eq_true rfl) ⟨Nat.zero_le _, Nat.zero_le _⟩ dX7_manners_73 ?_
          refine lv_if_eq (tgt := 83) hx hb dX7_manners_76 (by decide) (fun c_6 => ?_) (fun c_6 => ?_)
          ·
            refine lv_iconst (v := 1) hx hb dX7_manners_83 (by decide) ?_
            exact hret 1 _ _ _ _ _ _ hW rfl rfl (by (try simp only [i32_le, Decidable.not_not] at c_1); (try simp only [i32_le, Decidable.not_not] at c_2); (try simp only [i32_le, Decidable.not_not] at c_3); (try simp only [i32_le, Decidable.not_not] at c_4); (try simp only [i32_le, Decidable.not_not] at c_6); first | (simp only [mannersP, hiq, i32_le, c_1, c_2, c_3, c_4, c_6, if_true, if_false, not_false_eq_true, not_true_eq_false]; done) | simp [mannersP, hiq, c_1, c_2, c_3, c_4, c_6, i32_le]) dX7_manners_84
          ·
            refine lv_iconst (v := 0) hx hb dX7_manners_79 (by decide) ?_
            refine lv_goto (tgt := 84) hx hb dX7_manners_80 (by decide) ?_
            exact hret 0 _ _ _ _ _ _ hW rfl rfl (by (try simp only [i32_le, Decidable.not_not] at c_1); (try simp only [i32_le, Decidable.not_not] at c_2); (try simp only [i32_le, Decidable.not_not] at c_3); (try simp only [i32_le, Decidable.not_not] at c_4); (try simp only [i32_le, Decidable.not_not] at c_6); first | (simp only [mannersP, hiq, i32_le, c_1, c_2, c_3, c_4, c_6, if_true, if_false, not_false_eq_true, not_true_eq_false]; done) | simp [mannersP, hiq, c_1, c_2, c_3, c_4, c_6, i32_le]) dX7_manners_84
        ·
          by_cases c_7 : w = 1
          ·
            refine lv_lookup (off := 57) (tgt := 85) hx hb dX7_manners_28 (by decide) (by rw [c_7]; rfl) (by decide) ?_
            refine lv_aload_n hx hb dX7_manners_85 rfl (lv_at hl 0 rfl) ?_
            refine xr_O F hW 5 (by decide) rfl fl_RX7_50 dX7_manners_86 ?_
            refine lv_aload_n hx hb dX7_manners_89 rfl (lv_at hl 0 rfl) ?_
            refine xr_O F hW 5 (by decide) rfl fl_RX7_50 dX7_manners_90 ?_
            refine xr_Tg (b := 0) F hW (by decide) fl_RX7_128 dX7_manners_93 ?_
            refine lv_iload_n hx hb dX7_manners_96 rfl (lv_at hl 1 rfl) ?_
            refine xr_Rn (b := 0) (q := q) rfl (by omega) F hW (by decide) dX7_manners_97 ?_
            refine lv_iload_n hx hb dX7_manners_98 rfl (lv_at hl 2 rfl) ?_
            refine gw_callVi (As := [.ref (ad (9 + 8 * 0 + 1 + 1 + q)), .int a]) (rest := []) F hl.1 hW (fun _ _ hw => va_Nw.warmM hw hE) XE_E (by omega) (xe_T (b := 0) (by decide)) rfl (kX4_eatenBy (b := 0) (q := q) (by decide) hT hq hX) pd_yX4_eatenBy ml_RX7_176 im_yX4_eatenBy se_yX4_eatenBy ini_RX4 cd_yX4_eatenBy ⟨rfl, rfl⟩ ⟨Nat.le_of_ble_eq_true rfl, Nat.le_of_ble_eq_true rfl⟩ rfl rfl (Nat.le_of_ble_eq_true rfl) ⟨Nat.zero_le _, Nat.zero_le _⟩ dX7_manners_99 (fun r ρ_8 H locs hp hW _ _ => ?_)
            subst hp
            exact hret (eatS (xLx n τ) (TT 0) q a) _ _ _ _ _ _ hW rfl rfl (by (try simp only [i32_le, Decidable.not_not] at c_1); (try simp only [i32_le, Decidable.not_not] at c_2); (try simp only [i32_le, Decidable.not_not] at c_3); (try simp only [i32_le, Decidable.not_not] at c_4); (try simp only [i32_le, Decidable.not_not] at c_7); first | (simp only [mannersP, hiq, i32_le, c_1, c_2, c_3, c_4, c_7, if_true, if_false, not_false_eq_true, not_true_eq_false]; done) | simp [mannersP, hiq, c_1, c_2, c_3, c_4, c_7, i32_le]) dX7_manners_102
          ·
            refine lv_lookup (off := 75) (tgt := 103) hx hb dX7_manners_28 (by decide) ((lv_osw c_4 (by decide)).trans ((lv_osw c_7 (by decide)).trans rfl)) (by decide) ?_
            refine lv_bipush (v := (-7)) hx hb dX7_manners_103 (by decide) ?_
            exact hret (-7) _ _ _ _ _ _ hW rfl rfl (by (try simp only [i32_le, Decidable.not_not] at c_1); (try simp only [i32_le, Decidable.not_not] at c_2); (try simp only [i32_le, Decidable.not_not] at c_3); (try simp only [i32_le, Decidable.not_not] at c_4); (try simp only [i32_le, Decidable.not_not] at c_7); first | (simp only [mannersP, hiq, i32_le, c_1, c_2, c_3, c_4, c_7, if_true, if_false, not_false_eq_true, not_true_eq_false]; done) | simp [mannersP, hiq, c_1, c_2, c_3, c_4, c_7, i32_le]) dX7_manners_105
      ·
        refine lv_bipush (v := (-6)) hx hb dX7_manners_24 (by decide) ?_
        exact hret (-6) _ _ _ _ _ _ hW rfl rfl (by (try simp only [i32_le, Decidable.not_not] at c_1); (try simp only [i32_le, Decidable.not_not] at c_2); (try simp only [i32_le, Decidable.not_not] at c_3); first | (simp only [mannersP, hiq, i32_le, c_1, c_2, c_3, if_true, if_false, not_false_eq_true, not_true_eq_false]; done) | simp [mannersP, hiq, c_1, c_2, c_3, i32_le]) dX7_manners_26
  ·
    refine lv_bipush (v := (-5)) hx hb dX7_manners_11 (by decide) ?_
    exact hret (-5) _ _ _ _ _ _ hW rfl rfl (by (try simp only [i32_le, Decidable.not_not] at c_1); first | (simp only [mannersP, i32_le, c_1, if_true, if_false, not_false_eq_true, not_true_eq_false]; done) | simp [mannersP, c_1, i32_le]) dX7_manners_13
abbrev rm_yX7_dinner : Room := { frames := 6, cells := 0, slots := 0, locals := 133 }
set_option maxHeartbeats 800000 in
set_option maxRecDepth 100000 in
theorem kX7_dinner {l : Launch} {D : va_G} {cs : Nat → ClassId} {ad : Nat → Nat} {n : Nat} {ρ σ : Nat → Nat → Int32} {TT τ : Nat → Nat → Nat → Int32} {sz : Nat} {w : Int32} (hO : okO n TT τ σ) : XMi l yX7_dinner cX7_dinner 2 FieldType.int rm_yX7_dinner [.ref (ad 0), .int w] D cs ad n ρ TT τ σ sz (fun (r : Int32) (u : Nat → Nat → Int32) => r = dinnerP (xLx n τ) (TT 0) w) (fun u : Nat → Nat → Int32 => xent ad cs n u TT τ σ) := by
  refine gw_stI (Ff := fun u : Nat → Nat → Int32 => xent ad cs n u TT τ σ) (own := RX7) (by decide +kernel) rfl (Nat.le_of_ble_eq_true rfl) ?_
  intro p e s m ar below meth c A Q F hE hsz hW hret ls hl
  obtain ⟨hx, hb, hml, hown, hts⟩ := id F
  have hl : lv_has ls 2 [(0, .ref (ad 0)), (1, .int w)] := hl
  obtain ⟨hn1, hn6, hT, hX, hc, hnum⟩ := hO
  have hs6 := hT.1
  have hsN := hT.2.1
  have ht0 : (TT 0 6 3).toNatClampNeg < n := hT.2.2.1
  refine lv_iload_n hx hb dX7_dinner_0 rfl (lv_at hl 1 rfl) ?_
  by_cases c_1 : w = 0
  ·
    refine lv_tableIn (off := 35) (tgt := 36) hx hb dX7_dinner_1 (by rw [c_1]; decide) (by rw [c_1]; decide) (by rw [c_1]; rfl) (by decide) ?_
    refine lv_aload_n hx hb dX7_dinner_36 rfl (lv_at hl 0 rfl) ?_
    refine xr_O F hW 5 (by decide) rfl fl_RX7_50 dX7_dinner_37 ?_
    refine gw_callVi (As := []) (rest := []) F hl.1 hW (fun _ _ hw => va_Nw.warmM hw hE) XE_E (by omega) (xe_T (b := 0) (by decide)) rfl (kX4_stuckBits (b := 0) (by decide) hT hX) pd_yX4_stuckBits ml_RX7_73 im_yX4_stuckBits se_yX4_stuckBits ini_RX4 cd_yX4_stuckBits ⟨rfl, rfl⟩ ⟨Nat.le_of_ble_eq_true rfl, Nat.le_of_ble_eq_true rfl⟩ rfl rfl (Nat.le_of_ble_eq_true rfl) ⟨Nat.zero_le _, Nat.zero_le _⟩ dX7_dinner_40 (fun r ρ_2 H locs hp hW _ _ => ?_)
    subst hp
    exact hret (stuckK (xLx n τ) (TT 0) (seatsN (TT 0))) _ _ _ _ _ _ hW rfl rfl (by (try simp only [i32_le, Decidable.not_not] at c_1); first | (simp only [dinnerP, stuckBS, ateS, i32_le, c_1, if_true, if_false, not_false_eq_true, not_true_eq_false]; done) | simp [dinnerP, stuckBS, ateS, c_1, i32_le]) dX7_dinner_43
  ·
    by_cases c_3 : w = 1
    ·
      refine lv_tableIn (off := 43) (tgt := 44) hx hb dX7_dinner_1 (by rw [c_3]; decide) (by rw [c_3]; decide) (by rw [c_3]; rfl) (by decide) ?_
      refine lv_aload_n hx hb dX7_dinner_44 rfl (lv_at hl 0 rfl) ?_
      refine xr_O F hW 5 (by decide) rfl fl_RX7_50 dX7_dinner_45 ?_
      refine gw_callVi (As := []) (rest := []) F hl.1 hW (fun _ _ hw => va_Nw.warmM hw hE) XE_E (by omega) (xe_T (b := 0) (by decide)) rfl (kX4_dangerBits (b := 0) (by decide) hT hX) pd_yX4_dangerBits ml_RX7_180 im_yX4_dangerBits se_yX4_dangerBits ini_RX4 cd_yX4_dangerBits ⟨rfl, rfl⟩ ⟨Nat.le_of_ble_eq_true rfl, Nat.le_of_ble_eq_true rfl⟩ rfl rfl (Nat.le_of_ble_eq_true rfl) ⟨Nat.zero_le _, Nat.zero_le _⟩ dX7_dinner_48 (fun r ρ_4 H locs hp hW _ _ => ?_)
      subst hp
      exact hret (dangerK (TT 0) (seatsN (TT 0))) _ _ _ _ _ _ hW rfl rfl (by (try simp only [i32_le, Decidable.not_not] at c_1); (try simp only [i32_le, Decidable.not_not] at c_3); first | (simp only [dinnerP, stuckBS, ateS, i32_le, c_1, c_3, if_true, if_false, not_false_eq_true, not_true_eq_false]; done) | simp [dinnerP, stuckBS, ateS, c_1, c_3, i32_le]) dX7_dinner_51
    ·
      by_cases c_5 : w = 2
      ·
        refine lv_tableIn (off := 51) (tgt := 52) hx hb dX7_dinner_1 (by rw [c_5]; decide) (by rw [c_5]; decide) (by rw [c_5]; rfl) (by decide) ?_
        refine lv_aload_n hx hb dX7_dinner_52 rfl (lv_at hl 0 rfl) ?_
        refine xr_O F hW 5 (by decide) rfl fl_RX7_50 dX7_dinner_53 ?_
        refine gw_callVi (As := []) (rest := []) F hl.1 hW (fun _ _ hw => va_Nw.warmM hw hE) XE_E (by omega) (xe_T (b := 0) (by decide)) rfl (kX4_rightForAnybody (b := 0) (by decide) hT hX) pd_yX4_rightForAnybody ml_RX7_183 im_yX4_rightForAnybody se_yX4_rightForAnybody ini_RX4 cd_yX4_rightForAnybody ⟨rfl, rfl⟩ ⟨Nat.le_of_ble_eq_true rfl, Nat.le_of_ble_eq_true rfl⟩ rfl rfl (Nat.le_of_ble_eq_true rfl) ⟨Nat.zero_le _, Nat.zero_le _⟩ dX7_dinner_56 (fun r ρ_6 H locs hp hW _ _ => ?_)
        subst hp
        exact hret (anyK (xLx n τ) (TT 0) (seatsN (TT 0))) _ _ _ _ _ _ hW rfl rfl (by (try simp only [i32_le, Decidable.not_not] at c_1); (try simp only [i32_le, Decidable.not_not] at c_3); (try simp only [i32_le, Decidable.not_not] at c_5); first | (simp only [dinnerP, stuckBS, ateS, i32_le, c_1, c_3, c_5, if_true, if_false, not_false_eq_true, not_true_eq_false]; done) | simp [dinnerP, stuckBS, ateS, c_1, c_3, c_5, i32_le]) dX7_dinner_59
      ·
        by_cases c_7 : w = 3
        ·
          refine lv_tableIn (off := 59) (tgt := 60) hx hb dX7_dinner_1 (by rw [c_7]; decide) (by rw [c_7]; decide) (by rw [c_7]; rfl) (by decide) ?_
          refine lv_aload_n hx hb dX7_dinner_60 rfl (lv_at hl 0 rfl) ?_
          refine xr_O F hW 5 (by decide) rfl fl_RX7_50 dX7_dinner_61 ?_
          refine gw_callVi (As := []) (rest := []) F hl.1 hW (fun _ _ hw => va_Nw.warmM hw hE) XE_E (by omega) (xe_T (b := 0) (by decide)) rfl (kX4_rightForAll (b := 0) (by decide) hT hX) pd_yX4_rightForAll ml_RX7_186 im_yX4_rightForAll se_yX4_rightForAll ini_RX4 cd_yX4_rightForAll ⟨rfl, rfl⟩ ⟨Nat.le_of_ble_eq_true rfl, Nat.le_of_ble_eq_true rfl⟩ rfl rfl (Nat.le_of_ble_eq_true rfl) ⟨Nat.zero_le _, Nat.zero_le _⟩ dX7_dinner_64 (fun r ρ_8 H locs hp hW _ _ => ?_)
          subst hp
          exact hret (allK (xLx n τ) (TT 0) (seatsN (TT 0))) _ _ _ _ _ _ hW rfl rfl (by (try simp only [i32_le, Decidable.not_not] at c_1); (try simp only [i32_le, Decidable.not_not] at c_3); (try simp only [i32_le, Decidable.not_not] at c_5); (try simp only [i32_le, Decidable.not_not] at c_7); first | (simp only [dinnerP, stuckBS, ateS, i32_le, c_1, c_3, c_5, c_7, if_true, if_false, not_false_eq_true, not_true_eq_false]; done) | simp [dinnerP, stuckBS, ateS, c_1, c_3, c_5, c_7, i32_le]) dX7_dinner_67
        ·
          by_cases c_9 : w = 4
          ·
            refine lv_tableIn (off := 67) (tgt := 68) hx hb dX7_dinner_1 (by rw [c_9]; decide) (by rw [c_9]; decide) (by rw [c_9]; rfl) (by decide) ?_
            refine lv_aload_n hx hb dX7_dinner_68 rfl (lv_at hl 0 rfl) ?_
            refine xr_O F hW 5 (by decide) rfl fl_RX7_50 dX7_dinner_69 ?_
            refine gw_callVi (As := []) (rest := []) F hl.1 hW (fun _ _ hw => va_Nw.warmM hw hE) XE_E (by omega) (xe_T (b := 0) (by decide)) rfl (kX4_ateTogether (b := 0) (by decide) hT hX) pd_yX4_ateTogether ml_RX7_189 im_yX4_ateTogether se_yX4_ateTogether ini_RX4 cd_yX4_ateTogether ⟨rfl, rfl⟩ ⟨Nat.le_of_ble_eq_true rfl, Nat.le_of_ble_eq_true rfl⟩ rfl rfl (Nat.le_of_ble_eq_true rfl) ⟨Nat.zero_le _, Nat.zero_le _⟩ dX7_dinner_72 (fun r ρ_10 H locs hp hW _ _ => ?_)
            subst hp
            exact hret (ateK (TT 0) (seatsN (TT 0))) _ _ _ _ _ _ hW rfl rfl (by (try simp only [i32_le, Decidable.not_not] at c_1); (try simp only [i32_le, Decidable.not_not] at c_3); (try simp only [i32_le, Decidable.not_not] at c_5); (try simp only [i32_le, Decidable.not_not] at c_7); (try simp only [i32_le, Decidable.not_not] at c_9); first | (simp only [dinnerP, stuckBS, ateS, i32_le, c_1, c_3, c_5, c_7, c_9, if_true, if_false, not_false_eq_true, not_true_eq_false]; done) | simp [dinnerP, stuckBS, ateS, c_1, c_3, c_5, c_7, c_9, i32_le]) dX7_dinner_75
          ·
            refine lv_tableOut (tgt := 76) hx hb dX7_dinner_1 (tb_out5_0 c_1 c_3 c_5 c_7 c_9) (by decide) ?_
            refine lv_bipush (v := (-2)) hx hb dX7_dinner_76 (by decide) ?_
            exact hret (-2) _ _ _ _ _ _ hW rfl rfl (by (try simp only [i32_le, Decidable.not_not] at c_1); (try simp only [i32_le, Decidable.not_not] at c_3); (try simp only [i32_le, Decidable.not_not] at c_5); (try simp only [i32_le, Decidable.not_not] at c_7); (try simp only [i32_le, Decidable.not_not] at c_9); first | (simp only [dinnerP, stuckBS, ateS, i32_le, c_1, c_3, c_5, c_7, c_9, if_true, if_false, not_false_eq_true, not_true_eq_false]; done) | simp [dinnerP, stuckBS, ateS, c_1, c_3, c_5, c_7, c_9, i32_le]) dX7_dinner_78
abbrev rm_yX7_minute : Room := { frames := 6, cells := 0, slots := 0, locals := 139 }
set_option maxHeartbeats 800000 in
set_option maxRecDepth 100000 in
theorem kX7_minute {l : Launch} {D : va_G} {cs : Nat → ClassId} {ad : Nat → Nat} {n : Nat} {ρ σ : Nat → Nat → Int32} {TT τ : Nat → Nat → Nat → Int32} {sz : Nat}  (hO : okO n TT τ σ) : XMi l yX7_minute cX7_minute 1 FieldType.int rm_yX7_minute [.ref (ad 0)] D cs ad n ρ TT τ σ sz (fun (r : Int32) (u : (Nat → Nat → Int32) × (Nat → Nat → Nat → Int32)) => r = (minuteP (xLx n τ) (TT 0)).1 ∧ u.2 = va_up TT 0 (minuteP (xLx n τ) (TT 0)).2) (fun u : (Nat → Nat → Int32) × (Nat → Nat → Nat → Int32) => xent ad cs n u.1 u.2 τ σ) := by
  refine gw_stI (Ff := fun u : (Nat → Nat → Int32) × (Nat → Nat → Nat → Int32) => xent ad cs n u.1 u.2 τ σ) (own := RX7) (by decide +kernel) rfl (Nat.le_of_ble_eq_true rfl) ?_
  intro p e s m ar below meth c A Q F hE hsz hW hret ls hl
  obtain ⟨hx, hb, hml, hown, hts⟩ := id F
  have hl : lv_has ls 1 [(0, .ref (ad 0))] := hl
  obtain ⟨hn1, hn6, hT, hX, hc, hnum⟩ := hO
  have hs6 := hT.1
  have hsN := hT.2.1
  have ht0 : (TT 0 6 3).toNatClampNeg < n := hT.2.2.1
  refine lv_aload_n hx hb dX7_minute_0 rfl (lv_at hl 0 rfl) ?_
  refine xr_O F hW 5 (by decide) rfl fl_RX7_50 dX7_minute_1 ?_
  refine xr_Ti (b := 0) F hW (by decide) 2 (by decide) fl_RX7_70 dX7_minute_4 ?_
  refine lv_sipush (v := 999) hx hb dX7_minute_7 (by decide) ?_
  refine lv_icmp_lt (tgt := 16) hx hb dX7_minute_10 (by decide) (fun c_1 => ?_) (fun c_1 => ?_)
  ·
    refine lv_aload_n hx hb dX7_minute_16 rfl (lv_at hl 0 rfl) ?_
    refine xr_O F hW 5 (by decide) rfl fl_RX7_50 dX7_minute_17 ?_
    refine gw_callVi (As := []) (rest := []) F hl.1 hW (fun _ _ hw => va_Nw.warmM hw hE) XE_E (by omega) (xe_T (b := 0) (by decide)) rfl (kX4_pass (b := 0) (by decide) hT hX) pd_yX4_pass ml_RX7_192 im_yX4_pass se_yX4_pass ini_RX4 cd_yX4_pass ⟨rfl, rfl⟩ ⟨Nat.le_of_ble_eq_true rfl, Nat.le_of_ble_eq_true rfl⟩ rfl rfl (Nat.le_of_ble_eq_true rfl) ⟨Nat.zero_le _, Nat.zero_le _⟩ dX7_minute_20 (fun r u H locs hp hW _ _ => ?_)
    obtain ⟨ρ_2, TT_3⟩ := u
    obtain ⟨rfl, hp⟩ := hp
    have hp : TT_3 = va_up TT 0 (passS (xLx n τ) (TT 0)).1 := hp
    subst hp
    exact hret ((passS (xLx n τ) (TT 0)).2) (ρ_2, va_up TT 0 (passS (xLx n τ) (TT 0)).1) _ _ _ _ _ hW rfl rfl (by (try simp only [i32_le, Decidable.not_not] at c_1); exact ⟨by first | (simp only [minuteP, i32_le, c_1, if_true, if_false, not_false_eq_true, not_true_eq_false]; done) | (simp only [minuteP, i32_le, c_1, if_true, if_false, not_false_eq_true, not_true_eq_false]; rfl), by first | (simp only [minuteP, i32_le, c_1, if_true, if_false, not_false_eq_true, not_true_eq_false, va_up_eta, va_up_self, bx_uu]; done) | (simp only [minuteP, i32_le, c_1, if_true, if_false, not_false_eq_true, not_true_eq_false, va_up_eta, va_up_self, bx_uu]; rfl)⟩) dX7_minute_23
  ·
    refine lv_bipush (v := (-3)) hx hb dX7_minute_13 (by decide) ?_
    exact hret (-3) (ρ, TT) _ _ _ _ _ hW rfl rfl (by (try simp only [i32_le, Decidable.not_not] at c_1); exact ⟨by first | (simp only [minuteP, i32_le, c_1, if_true, if_false, not_false_eq_true, not_true_eq_false]; done) | (simp only [minuteP, i32_le, c_1, if_true, if_false, not_false_eq_true, not_true_eq_false]; rfl), by first | (simp only [minuteP, i32_le, c_1, if_true, if_false, not_false_eq_true, not_true_eq_false, va_up_eta, va_up_self, bx_uu]; done) | (simp only [minuteP, i32_le, c_1, if_true, if_false, not_false_eq_true, not_true_eq_false, va_up_eta, va_up_self, bx_uu]; rfl)⟩) dX7_minute_15
abbrev rm_yX7_act : Room := { frames := 5, cells := 0, slots := 0, locals := 116 }
set_option maxHeartbeats 800000 in
set_option maxRecDepth 100000 in
theorem kX7_act {l : Launch} {D : va_G} {cs : Nat → ClassId} {ad : Nat → Nat} {n : Nat} {ρ σ : Nat → Nat → Int32} {TT τ : Nat → Nat → Nat → Int32} {sz : Nat} {pp : Int32} (hO : okO n TT τ σ) : XMi l yX7_act cX7_act 3 FieldType.int rm_yX7_act [.ref (ad 0), .int pp] D cs ad n ρ TT τ σ sz (fun (r : Int32) (u : (Nat → Nat → Int32) × (Nat → Nat → Nat → Int32)) => r = (actP (xLx n τ) (TT 0) pp).1 ∧ u.2 = va_up TT 0 (actP (xLx n τ) (TT 0) pp).2) (fun u : (Nat → Nat → Int32) × (Nat → Nat → Nat → Int32) => xent ad cs n u.1 u.2 τ σ) := by
  refine gw_stI (Ff := fun u : (Nat → Nat → Int32) × (Nat → Nat → Nat → Int32) => xent ad cs n u.1 u.2 τ σ) (own := RX7) (by decide +kernel) rfl (Nat.le_of_ble_eq_true rfl) ?_
  intro p e s m ar below meth c A Q F hE hsz hW hret ls hl
  obtain ⟨hx, hb, hml, hown, hts⟩ := id F
  have hl : lv_has ls 3 [(0, .ref (ad 0)), (1, .int pp)] := hl
  obtain ⟨hn1, hn6, hT, hX, hc, hnum⟩ := hO
  have hs6 := hT.1
  have hsN := hT.2.1
  have ht0 : (TT 0 6 3).toNatClampNeg < n := hT.2.2.1
  refine lv_aload_n hx hb dX7_act_0 rfl (lv_at hl 0 rfl) ?_
  refine xr_O F hW 5 (by decide) rfl fl_RX7_50 dX7_act_1 ?_
  refine lv_iload_n hx hb dX7_act_4 rfl (lv_at hl 1 rfl) ?_
  refine gw_callVi (As := [.int pp]) (rest := []) F hl.1 hW (fun _ _ hw => va_Nw.warmM hw hE) XE_E (by omega) (xe_T (b := 0) (by decide)) rfl (kX4_seatsOne (b := 0) (by decide)) pd_yX4_seatsOne ml_RX7_125 im_yX4_seatsOne se_yX4_seatsOne ini_RX4 cd_yX4_seatsOne ⟨rfl, rfl⟩ ⟨Nat.le_of_ble_eq_true rfl, Nat.le_of_ble_eq_true rfl⟩ rfl rfl (Nat.le_of_ble_eq_true rfl) ⟨Nat.zero_le _, Nat.zero_le _⟩ dX7_act_5 (fun r u H locs hp hW _ _ => ?_)
  subst hp
  refine lv_as (z := oneP (TT 0) pp) rfl ?_
  refine lv_if_ne (tgt := 14) hx hb dX7_act_8 (by decide) (fun c_1 => ?_) (fun c_1 => ?_)
  ·
    obtain ⟨q, hq, rfl⟩ := one_nat hT c_1; have hq6 : q < 6 := seats_le hT hq; have hiq : iN (nI q) = q := iN_nI (by omega); have hG := hT.2.2.2.2 q hq
    refine lv_aload_n hx hb dX7_act_14 rfl (lv_at hl 0 rfl) ?_
    refine xr_O F hW 5 (by decide) rfl fl_RX7_50 dX7_act_15 ?_
    refine lv_aload_n hx hb dX7_act_18 rfl (lv_at hl 0 rfl) ?_
    refine xr_O F hW 5 (by decide) rfl fl_RX7_50 dX7_act_19 ?_
    refine xr_Tg (b := 0) F hW (by decide) fl_RX7_128 dX7_act_22 ?_
    refine lv_iload_n hx hb dX7_act_25 rfl (lv_at hl 1 rfl) ?_
    refine xr_Rn (b := 0) (q := q) rfl (by omega) F hW (by decide) dX7_act_26 ?_
    refine gw_callVi (As := [.ref (ad (9 + 8 * 0 + 1 + 1 + q))]) (rest := []) F hl.1 hW (fun _ _ hw => va_Nw.warmM hw hE) XE_E (by omega) (xe_T (b := 0) (by decide)) rfl (kX4_actOf (b := 0) (q := q) (by decide) hT hq hX) pd_yX4_actOf ml_RX7_158 im_yX4_actOf se_yX4_actOf ini_RX4 cd_yX4_actOf ⟨rfl, rfl⟩ ⟨Nat.le_of_ble_eq_true rfl, Nat.le_of_ble_eq_true rfl⟩ rfl rfl (Nat.le_of_ble_eq_true rfl) ⟨Nat.zero_le _, Nat.zero_le _⟩ dX7_act_27 (fun r ρ_2 H locs hp hW _ _ => ?_)
    subst hp
    refine lv_topi (fun v_3 ev_3 => ?_)
    refine lv_istore_n (lv' := [(2, .int v_3), (0, .ref (ad 0)), (1, .int (nI q))]) hx hb dX7_act_30 rfl hl (by decide) rfl (fun ls hl => ?_)
    refine lv_iload_n hx hb dX7_act_31 rfl (lv_at hl 0 rfl) ?_
    refine lv_iconst (v := (-1)) hx hb dX7_act_32 (by decide) ?_
    refine lv_icmp_ne (tgt := 39) hx hb dX7_act_33 (by decide) (fun c_4 => ?_) (fun c_4 => ?_)
    ·
      have hna : ¬ actS (xLx n τ) (TT 0) q = -1 := (by rw [← ev_3]; exact c_4); obtain ⟨j, hj, rfl⟩ : upto 10 v_3 := (by rw [ev_3]; exact (act_upto _ _ _).resolve_left hna)
      refine lv_aload_n hx hb dX7_act_39 rfl (lv_at hl 1 rfl) ?_
      refine xr_O F hW 5 (by decide) rfl fl_RX7_50 dX7_act_40 ?_
      refine lv_iload_n hx hb dX7_act_43 rfl (lv_at hl 2 rfl) ?_
      refine lv_iload_n hx hb dX7_act_44 rfl (lv_at hl 0 rfl) ?_
      refine gw_callVv (As := [.int (nI q), .int (nI j)]) (rest := []) F hl.1 hW (fun _ _ hw => va_Nw.warmM hw hE) XE_E (by omega) (xe_T (b := 0) (by decide)) rfl (kX4_perform (b := 0) (q := q) (j := j) (by decide) hT hq hX hj) pd_yX4_perform ml_RX7_195 im_yX4_perform se_yX4_perform ini_RX4 cd_yX4_perform ⟨rfl, rfl⟩ ⟨Nat.le_of_ble_eq_true rfl, Nat.le_of_ble_eq_true rfl⟩ rfl rfl (Nat.le_of_ble_eq_true rfl) ⟨Nat.zero_le _, Nat.zero_le _⟩ dX7_act_45 (fun u H locs hp hW _ _ => ?_)
      obtain ⟨ρ_5, TT_6⟩ := u
      have hp : TT_6 = va_up TT 0 (performS (xLx n τ) (TT 0) q (nI j)) := hp
      subst hp
      refine lv_iload_n hx hb dX7_act_48 rfl (lv_at hl 0 rfl) ?_
      exact hret (nI j) (ρ_5, va_up TT 0 (performS (xLx n τ) (TT 0) q (nI j))) _ _ _ _ _ hW rfl rfl (by exact ⟨by simp only [actP, c_1, hiq, hna, if_false]; exact ev_3, by simp only [actP, c_1, hiq, hna, if_false]; rw [← ev_3]⟩) dX7_act_49
    ·
      refine lv_bipush (v := (-3)) hx hb dX7_act_36 (by decide) ?_
      exact hret (-3) (ρ_2, TT) _ _ _ _ _ hW rfl rfl (by have hya : actS (xLx n τ) (TT 0) q = -1 := (by rw [← ev_3]; exact c_4); exact ⟨by simp only [actP, c_1, hiq, hya, if_false, if_true], by simp only [actP, c_1, hiq, hya, if_false, if_true, va_up_eta]⟩) dX7_act_38
  ·
    refine lv_bipush (v := (-5)) hx hb dX7_act_11 (by decide) ?_
    exact hret (-5) (ρ, TT) _ _ _ _ _ hW rfl rfl (by (try simp only [i32_le, Decidable.not_not] at c_1); exact ⟨by first | (simp only [actP, i32_le, c_1, if_true, if_false, not_false_eq_true, not_true_eq_false]; done) | (simp only [actP, i32_le, c_1, if_true, if_false, not_false_eq_true, not_true_eq_false]; rfl), by first | (simp only [actP, i32_le, c_1, if_true, if_false, not_false_eq_true, not_true_eq_false, va_up_eta, va_up_self, bx_uu]; done) | (simp only [actP, i32_le, c_1, if_true, if_false, not_false_eq_true, not_true_eq_false, va_up_eta, va_up_self, bx_uu]; rfl)⟩) dX7_act_13
abbrev rm_yX7_swap : Room := { frames := 1, cells := 0, slots := 0, locals := 23 }
set_option maxHeartbeats 800000 in
set_option maxRecDepth 100000 in
theorem kX7_swap {l : Launch} {D : va_G} {cs : Nat → ClassId} {ad : Nat → Nat} {n : Nat} {ρ σ : Nat → Nat → Int32} {TT τ : Nat → Nat → Nat → Int32} {sz : Nat} {a z : Int32} (hO : okO n TT τ σ) : XMi l yX7_swap cX7_swap 3 FieldType.int rm_yX7_swap [.ref (ad 0), .int a, .int z] D cs ad n ρ TT τ σ sz (fun (r : Int32) (u : Nat → Nat → Nat → Int32) => r = (swapP (TT 0) a z).1 ∧ u = va_up TT 0 (swapP (TT 0) a z).2) (fun u : Nat → Nat → Nat → Int32 => xent ad cs n ρ u τ σ) := by
  refine gw_stI (Ff := fun u : Nat → Nat → Nat → Int32 => xent ad cs n ρ u τ σ) (own := RX7) (by decide +kernel) rfl (Nat.le_of_ble_eq_true rfl) ?_
  intro p e s m ar below meth c A Q F hE hsz hW hret ls hl
  obtain ⟨hx, hb, hml, hown, hts⟩ := id F
  have hl : lv_has ls 3 [(0, .ref (ad 0)), (1, .int a), (2, .int z)] := hl
  obtain ⟨hn1, hn6, hT, hX, hc, hnum⟩ := hO
  have hs6 := hT.1
  have hsN := hT.2.1
  have ht0 : (TT 0 6 3).toNatClampNeg < n := hT.2.2.1
  refine lv_aload_n hx hb dX7_swap_0 rfl (lv_at hl 0 rfl) ?_
  refine xr_O F hW 5 (by decide) rfl fl_RX7_50 dX7_swap_1 ?_
  refine lv_iload_n hx hb dX7_swap_4 rfl (lv_at hl 1 rfl) ?_
  refine gw_callVi (As := [.int a]) (rest := []) F hl.1 hW (fun _ _ hw => va_Nw.warmM hw hE) XE_E (by omega) (xe_T (b := 0) (by decide)) rfl (kX4_seatsOne (b := 0) (by decide)) pd_yX4_seatsOne ml_RX7_125 im_yX4_seatsOne se_yX4_seatsOne ini_RX4 cd_yX4_seatsOne ⟨rfl, rfl⟩ ⟨Nat.le_of_ble_eq_true rfl, Nat.le_of_ble_eq_true rfl⟩ rfl rfl (Nat.le_of_ble_eq_true rfl) ⟨Nat.zero_le _, Nat.zero_le _⟩ dX7_swap_5 (fun r u H locs hp hW _ _ => ?_)
  subst hp
  refine lv_as (z := oneP (TT 0) a) rfl ?_
  refine lv_if_eq (tgt := 27) hx hb dX7_swap_8 (by decide) (fun c_1 => ?_) (fun c_1 => ?_)
  ·
    refine lv_bipush (v := (-5)) hx hb dX7_swap_27 (by decide) ?_
    exact hret (-5) TT _ _ _ _ _ hW rfl rfl (by (try simp only [i32_le, Decidable.not_not] at c_1); exact ⟨by first | (simp only [swapP, i32_le, c_1, if_true, if_false, not_false_eq_true, not_true_eq_false]; done) | (simp only [swapP, i32_le, c_1, if_true, if_false, not_false_eq_true, not_true_eq_false]; rfl), by first | (simp only [swapP, i32_le, c_1, if_true, if_false, not_false_eq_true, not_true_eq_false, va_up_eta, va_up_self, bx_uu]; done) | (simp only [swapP, i32_le, c_1, if_true, if_false, not_false_eq_true, not_true_eq_false, va_up_eta, va_up_self, bx_uu]; rfl)⟩) dX7_swap_29
  ·
    obtain ⟨q, hq, rfl⟩ := one_nat hT c_1; have hq6 : q < 6 := seats_le hT hq; have hiq : iN (nI q) = q := iN_nI (by omega); have hG := hT.2.2.2.2 q hq
    refine lv_aload_n hx hb dX7_swap_11 rfl (lv_at hl 0 rfl) ?_
    refine xr_O F hW 5 (by decide) rfl fl_RX7_50 dX7_swap_12 ?_
    refine lv_iload_n hx hb dX7_swap_15 rfl (lv_at hl 2 rfl) ?_
    refine gw_callVi (As := [.int z]) (rest := []) F hl.1 hW (fun _ _ hw => va_Nw.warmM hw hE) XE_E (by omega) (xe_T (b := 0) (by decide)) rfl (kX4_seatsOne (b := 0) (by decide)) pd_yX4_seatsOne ml_RX7_125 im_yX4_seatsOne se_yX4_seatsOne ini_RX4 cd_yX4_seatsOne ⟨rfl, rfl⟩ ⟨Nat.le_of_ble_eq_true rfl, Nat.le_of_ble_eq_true rfl⟩ rfl rfl (Nat.le_of_ble_eq_true rfl) ⟨Nat.zero_le _, Nat.zero_le _⟩ dX7_swap_16 (fun r u H locs hp hW _ _ => ?_)
    subst hp
    refine lv_as (z := oneP (TT 0) z) rfl ?_
    refine lv_if_eq (tgt := 27) hx hb dX7_swap_19 (by decide) (fun c_2 => ?_) (fun c_2 => ?_)
    ·
      refine lv_bipush (v := (-5)) hx hb dX7_swap_27 (by decide) ?_
      exact hret (-5) TT _ _ _ _ _ hW rfl rfl (by (try simp only [i32_le, Decidable.not_not] at c_1); (try simp only [i32_le, Decidable.not_not] at c_2); exact ⟨by first | (simp only [swapP, hiq, i32_le, c_1, c_2, if_true, if_false, not_false_eq_true, not_true_eq_false]; done) | (simp only [swapP, hiq, i32_le, c_1, c_2, if_true, if_false, not_false_eq_true, not_true_eq_false]; rfl), by first | (simp only [swapP, hiq, i32_le, c_1, c_2, if_true, if_false, not_false_eq_true, not_true_eq_false, va_up_eta, va_up_self, bx_uu]; done) | (simp only [swapP, hiq, i32_le, c_1, c_2, if_true, if_false, not_false_eq_true, not_true_eq_false, va_up_eta, va_up_self, bx_uu]; rfl)⟩) dX7_swap_29
    ·
      obtain ⟨q2, hq2, rfl⟩ := one_nat hT c_2; have hq26 : q2 < 6 := seats_le hT hq2; have hiq2 : iN (nI q2) = q2 := iN_nI (by omega)
      refine lv_iload_n hx hb dX7_swap_22 rfl (lv_at hl 1 rfl) ?_
      refine lv_iload_n hx hb dX7_swap_23 rfl (lv_at hl 2 rfl) ?_
      refine lv_icmp_ne (tgt := 30) hx hb dX7_swap_24 (by decide) (fun c_3 => ?_) (fun c_3 => ?_)
      ·
        refine lv_aload_n hx hb dX7_swap_30 rfl (lv_at hl 0 rfl) ?_
        refine xr_O F hW 5 (by decide) rfl fl_RX7_50 dX7_swap_31 ?_
        refine lv_iload_n hx hb dX7_swap_34 rfl (lv_at hl 1 rfl) ?_
        refine lv_iload_n hx hb dX7_swap_35 rfl (lv_at hl 2 rfl) ?_
        refine gw_callVv (As := [.int (nI q), .int (nI q2)]) (rest := []) F hl.1 hW (fun _ _ hw => va_Nw.warmM hw hE) XE_E (by omega) (xe_T (b := 0) (by decide)) rfl (kX4_exchange (b := 0) (q1 := q) (q2 := q2) (by decide) (by omega) (by omega)) pd_yX4_exchange ml_RX7_198 im_yX4_exchange se_yX4_exchange ini_RX4 cd_yX4_exchange ⟨rfl, rfl⟩ ⟨Nat.le_of_ble_eq_true rfl, Nat.le_of_ble_eq_true rfl⟩ rfl rfl (Nat.le_of_ble_eq_true rfl) ⟨Nat.zero_le _, Nat.zero_le _⟩ dX7_swap_36 (fun TT_4 H locs hp hW _ _ => ?_)
        subst hp
        refine lv_aload_n hx hb dX7_swap_39 rfl (lv_at hl 0 rfl) ?_
        refine xr_O F hW 5 (by decide) rfl fl_RX7_50 dX7_swap_40 ?_
        refine xr_Tg (b := 0) F hW (by decide) fl_RX7_128 dX7_swap_43 ?_
        refine lv_iload_n hx hb dX7_swap_46 rfl (lv_at hl 1 rfl) ?_
        refine xr_Rn (b := 0) (q := q) rfl (by omega) F hW (by decide) dX7_swap_47 ?_
        refine xr_G (b := 0) (q := q) F hW (by decide) (by omega) 2 (by decide) fl_RX7_201 dX7_swap_48 ?_
        exact hret ((va_up TT 0 (swapS (TT 0) q q2)) 0 q 2) (va_up TT 0 (swapS (TT 0) q q2)) _ _ _ _ _ hW rfl rfl (by (try simp only [i32_le, Decidable.not_not] at c_1); (try simp only [i32_le, Decidable.not_not] at c_2); (try simp only [i32_le, Decidable.not_not] at c_3); exact ⟨by first | (simp only [swapP, hiq, hiq2, i32_le, c_1, c_2, c_3, if_true, if_false, not_false_eq_true, not_true_eq_false]; done) | (simp only [swapP, hiq, hiq2, i32_le, c_1, c_2, c_3, if_true, if_false, not_false_eq_true, not_true_eq_false]; rfl), by first | (simp only [swapP, hiq, hiq2, i32_le, c_1, c_2, c_3, if_true, if_false, not_false_eq_true, not_true_eq_false, va_up_eta, va_up_self, bx_uu]; done) | (simp only [swapP, hiq, hiq2, i32_le, c_1, c_2, c_3, if_true, if_false, not_false_eq_true, not_true_eq_false, va_up_eta, va_up_self, bx_uu]; rfl)⟩) dX7_swap_51
      ·
        refine lv_bipush (v := (-5)) hx hb dX7_swap_27 (by decide) ?_
        exact hret (-5) TT _ _ _ _ _ hW rfl rfl (by (try simp only [i32_le, Decidable.not_not] at c_1); (try simp only [i32_le, Decidable.not_not] at c_2); (try simp only [i32_le, Decidable.not_not] at c_3); exact ⟨by first | (simp only [swapP, hiq, hiq2, i32_le, c_1, c_2, c_3, if_true, if_false, not_false_eq_true, not_true_eq_false]; done) | (simp only [swapP, hiq, hiq2, i32_le, c_1, c_2, c_3, if_true, if_false, not_false_eq_true, not_true_eq_false]; rfl), by first | (simp only [swapP, hiq, hiq2, i32_le, c_1, c_2, c_3, if_true, if_false, not_false_eq_true, not_true_eq_false, va_up_eta, va_up_self, bx_uu]; done) | (simp only [swapP, hiq, hiq2, i32_le, c_1, c_2, c_3, if_true, if_false, not_false_eq_true, not_true_eq_false, va_up_eta, va_up_self, bx_uu]; rfl)⟩) dX7_swap_29
