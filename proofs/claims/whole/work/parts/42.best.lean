abbrev rm_yX7_alarm : Room := { frames := 7, cells := 0, slots := 0, locals := 161 }
set_option maxHeartbeats 800000 in
set_option maxRecDepth 100000 in
theorem kX7_alarm {l : Launch} {D : va_G} {cs : Nat → ClassId} {ad : Nat → Nat} {n : Nat} {ρ σ : Nat → Nat → Int32} {TT τ : Nat → Nat → Nat → Int32} {sz : Nat} {v w0 : Int32} (hO : okO n TT τ σ) : XMi l yX7_alarm cX7_alarm 7 FieldType.int rm_yX7_alarm [.ref (ad 0), .int v, .int w0] D cs ad n ρ TT τ σ sz (fun (r : Int32) (u : (Nat → Nat → Int32) × Tb) => r = alarmP (xLx n τ) (TT 0) v w0) (fun u : (Nat → Nat → Int32) × Tb => xent ad cs n u.1 (va_up TT 1 u.2) τ σ) := by
  refine gw_stI (Ff := fun u : (Nat → Nat → Int32) × Tb => xent ad cs n u.1 (va_up TT 1 u.2) τ σ) (own := RX7) (by decide +kernel) rfl (Nat.le_of_ble_eq_true rfl) ?_
  intro p e s m ar below meth c A Q F hE hsz hW hret ls hl
  obtain ⟨hx, hb, hml, hown, hts⟩ := id F
  have hl : lv_has ls 7 [(0, .ref (ad 0)), (1, .int v), (2, .int w0)] := hl
  obtain ⟨hn1, hn6, hT, hX, hc, hnum⟩ := hO
  have hs6 := hT.1
  have hsN := hT.2.1
  have ht0 : (TT 0 6 3).toNatClampNeg < n := hT.2.2.1
  have hW : XW D cs ad n ρ (va_up TT 1 (TT 1)) τ σ A s s.heap s.heap [] := by rw [va_up_eta]; exact hW
  refine lv_iload_n hx hb dX7_alarm_0 rfl (lv_at hl 1 rfl) ?_
  refine gw_callP (As := [.int v]) (rest := []) F hl.1 (kX7_isRun) pd_yX7_isRun ml_RX7_204 st_yX7_isRun ini_RX7 cd_yX7_isRun ⟨rfl, rfl⟩ ⟨Nat.le_of_ble_eq_true rfl, Nat.le_of_ble_eq_true rfl⟩ rfl rfl (Nat.le_of_ble_eq_true rfl) ⟨Nat.zero_le _, Nat.zero_le _⟩ dX7_alarm_1 ?_
  refine lv_as (z := runP v) rfl ?_
  refine lv_if_eq (tgt := 14) hx hb dX7_alarm_4 (by decide) (fun c_1 => ?_) (fun c_1 => ?_)
  ·
    refine lv_bipush (v := (-2)) hx hb dX7_alarm_14 (by decide) ?_
    exact hret (-2) (ρ, (TT 1)) _ _ _ _ _ hW rfl rfl (by (try simp only [i32_le, Decidable.not_not] at c_1); first | (simp only [alarmP, i32_le, c_1, if_true, if_false, not_false_eq_true, not_true_eq_false]; done) | simp [alarmP, c_1, i32_le]) dX7_alarm_16
  ·
    obtain ⟨w, hw40, rfl⟩ := run_nat c_1; have hiw : iN (nI w) = w := iN_nI (by omega)
    refine lv_iload_n hx hb dX7_alarm_7 rfl (lv_at hl 2 rfl) ?_
    refine gw_callP (As := [.int w0]) (rest := []) F hl.1 (kX7_isChoice) pd_yX7_isChoice ml_RX7_216 st_yX7_isChoice ini_RX7 cd_yX7_isChoice ⟨rfl, rfl⟩ ⟨Nat.le_of_ble_eq_true rfl, Nat.le_of_ble_eq_true rfl⟩ rfl rfl (Nat.le_of_ble_eq_true rfl) ⟨Nat.zero_le _, Nat.zero_le _⟩ dX7_alarm_8 ?_
    refine lv_as (z := choP w0) rfl ?_
    refine lv_if_ne (tgt := 17) hx hb dX7_alarm_11 (by decide) (fun c_2 => ?_) (fun c_2 => ?_)
    ·
      refine lv_iconst (v := (-1)) hx hb dX7_alarm_17 (by decide) ?_
      refine lv_istore_n (lv' := [(3, .int (-1)), (0, .ref (ad 0)), (1, .int (nI w)), (2, .int w0)]) hx hb dX7_alarm_18 rfl hl (by decide) rfl (fun ls hl => ?_)
      refine lv_aload_n hx hb dX7_alarm_19 rfl (lv_at hl 1 rfl) ?_
      refine gw_callVv (As := []) (rest := []) F hl.1 hW (fun _ _ hw => va_Nw.warmM hw hE) XE_E (by omega) xe_0 rfl (kX7_think (TT := TT) (X := (TT 1)) hT) pd_yX7_think ml_RX7_207 im_yX7_think se_yX7_think ini_RX7 cd_yX7_think ⟨rfl, rfl⟩ ⟨Nat.le_of_ble_eq_true rfl, Nat.le_of_ble_eq_true rfl⟩ rfl rfl (Nat.le_of_ble_eq_true rfl) ⟨Nat.zero_le _, Nat.zero_le _⟩ dX7_alarm_20 (fun C_3 H locs hp hW _ _ => ?_)
      have hC_C_3 : EqT C_3 (TT 0) := hp
      have hCo_C_3 : okT n C_3 := hC_C_3.symm.ok hT
      have hCs_C_3 : seatsN C_3 = seatsN (TT 0) := hC_C_3.seats
      refine lv_aload_n hx hb dX7_alarm_23 rfl (lv_at hl 1 rfl) ?_
      refine xr_O F hW 6 (by decide) rfl fl_RX7_54 dX7_alarm_24 ?_
      refine lv_iload_n hx hb dX7_alarm_27 rfl (lv_at hl 2 rfl) ?_
      refine gw_callVi (As := [.int (nI w)]) (rest := []) F hl.1 hW (fun _ _ hw => va_Nw.warmM hw hE) XE_E (by omega) (xe_T (b := 1) (by decide)) rfl (kX4_ateBehind (b := 1) (w := w) (by decide) hCo_C_3 hX (by omega)) pd_yX4_ateBehind ml_RX7_225 im_yX4_ateBehind se_yX4_ateBehind ini_RX4 cd_yX4_ateBehind ⟨rfl, rfl⟩ ⟨Nat.le_of_ble_eq_true rfl, Nat.le_of_ble_eq_true rfl⟩ rfl rfl (Nat.le_of_ble_eq_true rfl) ⟨Nat.zero_le _, Nat.zero_le _⟩ dX7_alarm_28 (fun r u H locs hp hW _ _ => ?_)
      obtain ⟨ρ_4, TT_5⟩ := u
      obtain ⟨rfl, hp⟩ := hp
      have hp : TT_5 = va_up TT 1 (passN (xLx n τ) C_3 w).1 := hp.trans (bx_uu _ _ _ _)
      subst hp
      refine lv_as (z := behA (xLx n τ) C_3 w) rfl ?_
      refine lv_as (z := behA (xLx n τ) (TT 0) w) (hC_C_3.abeh hCo_C_3 (xLx n τ) w) ?_
      refine lv_topi (fun v_6 ev_6 => ?_)
      refine lv_istore (lv' := [(4, .int v_6), (3, .int (-1)), (0, .ref (ad 0)), (1, .int (nI w)), (2, .int w0)]) hx hb dX7_alarm_31 hl (by decide) rfl (fun ls hl => ?_)
      refine lv_iconst (v := 0) hx hb dX7_alarm_33 (by decide) ?_
      refine lv_istore (lv' := [(5, .int 0), (4, .int v_6), (3, .int (-1)), (0, .ref (ad 0)), (1, .int (nI w)), (2, .int w0)]) hx hb dX7_alarm_34 hl (by decide) rfl (fun ls hl => ?_)
      have L36 : ∀ (k : Nat) (i : Nat) (ρ' : Nat → Nat → Int32) (X : Tb) (bb ff : Int32), (i ≤ seatsN (TT 0)) → (seatsN (TT 0) + 1 ≤ i + k) → ((alarK (xLx n τ) (TT 0) w i) = (bb, ff)) → ∀ (H : Heap) (locs : List Loc) (ls : Array Slot), XW D cs ad n ρ' (va_up TT 1 X) τ σ A s s.heap H locs → lv_has ls 7 [(5, .int (nI i)), (3, .int bb), (4, .int ff), (0, .ref (ad 0)), (1, .int (nI w)), (2, .int w0)] → W p l e rm_yX7_alarm s m ar below meth c H locs 0 0 Q (F0 m 36 ls []) := by
        intro k
        induction k with
        | zero => intro i ρ' X bb ff h1 h2 hBF; exact absurd h2 (by omega)
        | succ k ih36 =>
          intro i ρ' X bb ff h1 h2 hBF H locs ls hW hl
          refine lv_iload hx hb dX7_alarm_36 (lv_at hl 0 rfl) ?_
          refine lv_aload_n hx hb dX7_alarm_38 rfl (lv_at hl 3 rfl) ?_
          refine xr_O F hW 5 (by decide) rfl fl_RX7_50 dX7_alarm_39 ?_
          refine xr_Ti (b := 0) F hW (by decide) 1 (by decide) fl_RX7_67 dX7_alarm_42 ?_
          refine lv_as (z := TT 0 6 1) rfl ?_
          refine lv_as (z := nI (seatsN (TT 0))) (hsN) ?_
          refine lv_icmp_ge (tgt := 112) hx hb dX7_alarm_45 (by decide) (fun c_7 => ?_) (fun c_7 => ?_)
          ·
            obtain rfl : i = seatsN (TT 0) := by have := mi_le c_7 (by omega) (by omega); omega
            refine lv_iload_n hx hb dX7_alarm_112 rfl (lv_at hl 5 rfl) ?_
            refine lv_if_ne (tgt := 120) hx hb dX7_alarm_113 (by decide) (fun c_8 => ?_) (fun c_8 => ?_)
            ·
              refine lv_iload hx hb dX7_alarm_120 (lv_at hl 2 rfl) ?_
              exact hret ff (ρ', X) _ _ _ _ _ hW rfl rfl (by simp only [alarmP, c_1, c_2, if_false, hiw, pickS]; rw [if_neg c_8]; simp only [hBF]) dX7_alarm_122
            ·
              refine lv_iload_n hx hb dX7_alarm_116 rfl (lv_at hl 1 rfl) ?_
              refine lv_goto (tgt := 122) hx hb dX7_alarm_117 (by decide) ?_
              exact hret bb (ρ', X) _ _ _ _ _ hW rfl rfl (by simp only [alarmP, c_1, c_2, if_false, hiw, pickS]; rw [if_pos c_8]; simp only [hBF]) dX7_alarm_122
          ·
            have hlt : i < seatsN (TT 0) := mi_nle c_7 (by omega) (by omega); have hi6 : i < 6 := (by omega)
            refine lv_aload_n hx hb dX7_alarm_48 rfl (lv_at hl 3 rfl) ?_
            refine xr_O F hW 5 (by decide) rfl fl_RX7_50 dX7_alarm_49 ?_
            refine xr_Tg (b := 0) F hW (by decide) fl_RX7_128 dX7_alarm_52 ?_
            refine lv_iload hx hb dX7_alarm_55 (lv_at hl 0 rfl) ?_
            refine xr_Rn (b := 0) (q := i) rfl (by omega) F hW (by decide) dX7_alarm_57 ?_
            refine xr_G (b := 0) (q := i) F hW (by decide) (by omega) 6 (by decide) fl_RX7_228 dX7_alarm_58 ?_
            refine lv_as (z := TT 0 i 6) rfl ?_
            refine lv_if_ne (tgt := 106) hx hb dX7_alarm_61 (by decide) (fun c_9 => ?_) (fun c_9 => ?_)
            ·
              refine lv_iinc (v := nI (i + 1)) (lv' := [(5, .int (nI (i + 1))), (3, .int bb), (4, .int ff), (0, .ref (ad 0)), (1, .int (nI w)), (2, .int w0)]) hx hb dX7_alarm_106 hl (k := 0) rfl (nI_1 i) (by decide) rfl (fun ls hl => ?_)
              refine lv_goto (tgt := 36) hx hb dX7_alarm_109 (by decide) ?_
              exact ih36 (i + 1) _ _ _ _ (by omega) (by omega) (by show (if TT 0 i 6 = 0 then _ else _) = _; rw [if_neg c_9]; exact hBF) _ _ _ hW (lv_sub hl [0, 1, 2, 3, 4, 5] rfl)
            ·
              refine lv_aload_n hx hb dX7_alarm_64 rfl (lv_at hl 3 rfl) ?_
              refine gw_callVv (As := []) (rest := []) F hl.1 hW (fun _ _ hw => va_Nw.warmM hw hE) XE_E (by omega) xe_0 rfl (kX7_think (TT := TT) (X := X) hT) pd_yX7_think ml_RX7_207 im_yX7_think se_yX7_think ini_RX7 cd_yX7_think ⟨rfl, rfl⟩ ⟨Nat.le_of_ble_eq_true rfl, Nat.le_of_ble_eq_true rfl⟩ rfl rfl (Nat.le_of_ble_eq_true rfl) ⟨Nat.zero_le _, Nat.zero_le _⟩ dX7_alarm_65 (fun C_10 H locs hp hW _ _ => ?_)
              have hC_C_10 : EqT C_10 (TT 0) := hp
              have hCo_C_10 : okT n C_10 := hC_C_10.symm.ok hT
              have hCs_C_10 : seatsN C_10 = seatsN (TT 0) := hC_C_10.seats
              refine lv_aload_n hx hb dX7_alarm_68 rfl (lv_at hl 3 rfl) ?_
              refine xr_O F hW 6 (by decide) rfl fl_RX7_54 dX7_alarm_69 ?_
              refine xr_Tg (b := 1) F hW (by decide) fl_RX7_128 dX7_alarm_72 ?_
              refine lv_iload hx hb dX7_alarm_75 (lv_at hl 0 rfl) ?_
              refine xr_Rn (b := 1) (q := i) rfl (by omega) F hW (by decide) dX7_alarm_77 ?_
              refine lv_iconst (v := 1) hx hb dX7_alarm_78 (by decide) ?_
              refine xw_G (b := 1) (q := i) F hW (by decide) (by omega) 6 (by decide) fl_RX7_228 rfl (ty := .boolean) rfl rfl rfl dX7_alarm_79 (fun H locs hW => ?_)
              have hW : XW D cs ad n ρ' (va_up TT 1 (upT C_10 i 6 1)) τ σ A s s.heap H locs := by rw [bx_uu] at hW; exact hW
              refine lv_aload_n hx hb dX7_alarm_82 rfl (lv_at hl 3 rfl) ?_
              refine xr_O F hW 6 (by decide) rfl fl_RX7_54 dX7_alarm_83 ?_
              refine lv_iload_n hx hb dX7_alarm_86 rfl (lv_at hl 4 rfl) ?_
              refine gw_callVi (As := [.int (nI w)]) (rest := []) F hl.1 hW (fun _ _ hw => va_Nw.warmM hw hE) XE_E (by omega) (xe_T (b := 1) (by decide)) rfl (kX4_ateBehind (b := 1) (w := w) (by decide) (ok_upT hCo_C_10 hi6 (fun hz => okG_6 (hCo_C_10.2.2.2.2 i hz) (Or.inr rfl))) hX (by omega)) pd_yX4_ateBehind ml_RX7_225 im_yX4_ateBehind se_yX4_ateBehind ini_RX4 cd_yX4_ateBehind ⟨rfl, rfl⟩ ⟨Nat.le_of_ble_eq_true rfl, Nat.le_of_ble_eq_true rfl⟩ rfl rfl (Nat.le_of_ble_eq_true rfl) ⟨Nat.zero_le _, Nat.zero_le _⟩ dX7_alarm_87 (fun r u H locs hp hW _ _ => ?_)
              obtain ⟨ρ_11, TT_12⟩ := u
              obtain ⟨rfl, hp⟩ := hp
              have hp : TT_12 = va_up TT 1 (passN (xLx n τ) (upT C_10 i 6 1) w).1 := hp.trans (bx_uu _ _ _ _)
              subst hp
              refine lv_as (z := behA (xLx n τ) (upT C_10 i 6 1) w) rfl ?_
              refine lv_as (z := behA (xLx n τ) (upT (TT 0) i 6 1) w) ((hC_C_10.put hi6 6 (fun _ => rfl)).abeh (ok_upT hCo_C_10 hi6 (fun hz => okG_6 (hCo_C_10.2.2.2.2 i hz) (Or.inr rfl))) (xLx n τ) w) ?_
              refine lv_topi (fun vv evv => ?_)
              refine lv_istore (lv' := [(6, .int vv), (5, .int (nI i)), (3, .int bb), (4, .int ff), (0, .ref (ad 0)), (1, .int (nI w)), (2, .int w0)]) hx hb dX7_alarm_90 hl (by decide) rfl (fun ls hl => ?_)
              refine lv_iload hx hb dX7_alarm_92 (lv_at hl 0 rfl) ?_
              refine lv_iload hx hb dX7_alarm_94 (lv_at hl 3 rfl) ?_
              refine lv_icmp_le (tgt := 106) hx hb dX7_alarm_96 (by decide) (fun c_13 => ?_) (fun c_13 => ?_)
              ·
                refine lv_iinc (v := nI (i + 1)) (lv' := [(5, .int (nI (i + 1))), (6, .int vv), (3, .int bb), (4, .int ff), (0, .ref (ad 0)), (1, .int (nI w)), (2, .int w0)]) hx hb dX7_alarm_106 hl (k := 1) rfl (nI_1 i) (by decide) rfl (fun ls hl => ?_)
                refine lv_goto (tgt := 36) hx hb dX7_alarm_109 (by decide) ?_
                exact ih36 (i + 1) _ _ _ _ (by omega) (by omega) (by show (if TT 0 i 6 = 0 then _ else _) = _; rw [if_pos c_9, hBF]; unfold moreS; rw [if_neg (by rw [← evv]; exact Int32.not_lt.mpr c_13)]) _ _ _ hW (lv_sub hl [0, 2, 3, 4, 5, 6] rfl)
              ·
                refine lv_iload hx hb dX7_alarm_99 (lv_at hl 1 rfl) ?_
                refine lv_istore_n (lv' := [(3, .int (nI i)), (6, .int vv), (5, .int (nI i)), (4, .int ff), (0, .ref (ad 0)), (1, .int (nI w)), (2, .int w0)]) hx hb dX7_alarm_101 rfl hl (by decide) rfl (fun ls hl => ?_)
                refine lv_iload hx hb dX7_alarm_102 (lv_at hl 1 rfl) ?_
                refine lv_istore (lv' := [(4, .int vv), (3, .int (nI i)), (6, .int vv), (5, .int (nI i)), (0, .ref (ad 0)), (1, .int (nI w)), (2, .int w0)]) hx hb dX7_alarm_104 hl (by decide) rfl (fun ls hl => ?_)
                refine lv_iinc (v := nI (i + 1)) (lv' := [(5, .int (nI (i + 1))), (4, .int vv), (3, .int (nI i)), (6, .int vv), (0, .ref (ad 0)), (1, .int (nI w)), (2, .int w0)]) hx hb dX7_alarm_106 hl (k := 3) rfl (nI_1 i) (by decide) rfl (fun ls hl => ?_)
                refine lv_goto (tgt := 36) hx hb dX7_alarm_109 (by decide) ?_
                exact ih36 (i + 1) _ _ _ _ (by omega) (by omega) (by show (if TT 0 i 6 = 0 then _ else _) = _; rw [if_pos c_9, hBF]; unfold moreS; rw [if_pos (by rw [← evv]; exact Int32.not_le.mp c_13), ← evv]) _ _ _ hW (lv_sub hl [0, 2, 1, 4, 5, 6] rfl)
      exact L36 (seatsN (TT 0) + 1) 0 _ _ _ _ (Nat.zero_le _) (by omega) (by rw [ev_6]; rfl) _ _ _ hW (lv_sub hl [0, 2, 1, 3, 4, 5] rfl)
    ·
      refine lv_bipush (v := (-2)) hx hb dX7_alarm_14 (by decide) ?_
      exact hret (-2) (ρ, (TT 1)) _ _ _ _ _ hW rfl rfl (by (try simp only [i32_le, Decidable.not_not] at c_1); (try simp only [i32_le, Decidable.not_not] at c_2); first | (simp only [alarmP, i32_le, c_1, c_2, if_true, if_false, not_false_eq_true, not_true_eq_false]; done) | simp [alarmP, c_1, c_2, i32_le]) dX7_alarm_16
abbrev rm_yX7_change : Room := { frames := 7, cells := 0, slots := 0, locals := 161 }
set_option maxHeartbeats 800000 in
set_option maxRecDepth 100000 in
theorem kX7_change {l : Launch} {D : va_G} {cs : Nat → ClassId} {ad : Nat → Nat} {n : Nat} {ρ σ : Nat → Nat → Int32} {TT τ : Nat → Nat → Nat → Int32} {sz : Nat} {v w0 : Int32} (hO : okO n TT τ σ) : XMi l yX7_change cX7_change 8 FieldType.int rm_yX7_change [.ref (ad 0), .int v, .int w0] D cs ad n ρ TT τ σ sz (fun (r : Int32) (u : (Nat → Nat → Int32) × Tb) => r = changeP (xLx n τ) (TT 0) v w0) (fun u : (Nat → Nat → Int32) × Tb => xent ad cs n u.1 (va_up TT 1 u.2) τ σ) := by
  refine gw_stI (Ff := fun u : (Nat → Nat → Int32) × Tb => xent ad cs n u.1 (va_up TT 1 u.2) τ σ) (own := RX7) (by decide +kernel) rfl (Nat.le_of_ble_eq_true rfl) ?_
  intro p e s m ar below meth c A Q F hE hsz hW hret ls hl
  obtain ⟨hx, hb, hml, hown, hts⟩ := id F
  have hl : lv_has ls 8 [(0, .ref (ad 0)), (1, .int v), (2, .int w0)] := hl
  obtain ⟨hn1, hn6, hT, hX, hc, hnum⟩ := hO
  have hs6 := hT.1
  have hsN := hT.2.1
  have ht0 : (TT 0 6 3).toNatClampNeg < n := hT.2.2.1
  have hW : XW D cs ad n ρ (va_up TT 1 (TT 1)) τ σ A s s.heap s.heap [] := by rw [va_up_eta]; exact hW
  refine lv_iload_n hx hb dX7_change_0 rfl (lv_at hl 1 rfl) ?_
  refine gw_callP (As := [.int v]) (rest := []) F hl.1 (kX7_isRun) pd_yX7_isRun ml_RX7_204 st_yX7_isRun ini_RX7 cd_yX7_isRun ⟨rfl, rfl⟩ ⟨Nat.le_of_ble_eq_true rfl, Nat.le_of_ble_eq_true rfl⟩ rfl rfl (Nat.le_of_ble_eq_true rfl) ⟨Nat.zero_le _, Nat.zero_le _⟩ dX7_change_1 ?_
  refine lv_as (z := runP v) rfl ?_
  refine lv_if_eq (tgt := 14) hx hb dX7_change_4 (by decide) (fun c_1 => ?_) (fun c_1 => ?_)
  ·
    refine lv_bipush (v := (-2)) hx hb dX7_change_14 (by decide) ?_
    exact hret (-2) (ρ, (TT 1)) _ _ _ _ _ hW rfl rfl (by (try simp only [i32_le, Decidable.not_not] at c_1); first | (simp only [changeP, i32_le, c_1, if_true, if_false, not_false_eq_true, not_true_eq_false]; done) | simp [changeP, c_1, i32_le]) dX7_change_16
  ·
    obtain ⟨w, hw40, rfl⟩ := run_nat c_1; have hiw : iN (nI w) = w := iN_nI (by omega)
    refine lv_iload_n hx hb dX7_change_7 rfl (lv_at hl 2 rfl) ?_
    refine gw_callP (As := [.int w0]) (rest := []) F hl.1 (kX7_isChoice) pd_yX7_isChoice ml_RX7_216 st_yX7_isChoice ini_RX7 cd_yX7_isChoice ⟨rfl, rfl⟩ ⟨Nat.le_of_ble_eq_true rfl, Nat.le_of_ble_eq_true rfl⟩ rfl rfl (Nat.le_of_ble_eq_true rfl) ⟨Nat.zero_le _, Nat.zero_le _⟩ dX7_change_8 ?_
    refine lv_as (z := choP w0) rfl ?_
    refine lv_if_ne (tgt := 17) hx hb dX7_change_11 (by decide) (fun c_2 => ?_) (fun c_2 => ?_)
    ·
      refine lv_iconst (v := (-1)) hx hb dX7_change_17 (by decide) ?_
      refine lv_istore_n (lv' := [(3, .int (-1)), (0, .ref (ad 0)), (1, .int (nI w)), (2, .int w0)]) hx hb dX7_change_18 rfl hl (by decide) rfl (fun ls hl => ?_)
      refine lv_aload_n hx hb dX7_change_19 rfl (lv_at hl 1 rfl) ?_
      refine gw_callVv (As := []) (rest := []) F hl.1 hW (fun _ _ hw => va_Nw.warmM hw hE) XE_E (by omega) xe_0 rfl (kX7_think (TT := TT) (X := (TT 1)) hT) pd_yX7_think ml_RX7_207 im_yX7_think se_yX7_think ini_RX7 cd_yX7_think ⟨rfl, rfl⟩ ⟨Nat.le_of_ble_eq_true rfl, Nat.le_of_ble_eq_true rfl⟩ rfl rfl (Nat.le_of_ble_eq_true rfl) ⟨Nat.zero_le _, Nat.zero_le _⟩ dX7_change_20 (fun C_3 H locs hp hW _ _ => ?_)
      have hC_C_3 : EqT C_3 (TT 0) := hp
      have hCo_C_3 : okT n C_3 := hC_C_3.symm.ok hT
      have hCs_C_3 : seatsN C_3 = seatsN (TT 0) := hC_C_3.seats
      refine lv_aload_n hx hb dX7_change_23 rfl (lv_at hl 1 rfl) ?_
      refine xr_O F hW 6 (by decide) rfl fl_RX7_54 dX7_change_24 ?_
      refine lv_iload_n hx hb dX7_change_27 rfl (lv_at hl 2 rfl) ?_
      refine gw_callVi (As := [.int (nI w)]) (rest := []) F hl.1 hW (fun _ _ hw => va_Nw.warmM hw hE) XE_E (by omega) (xe_T (b := 1) (by decide)) rfl (kX4_stuckBehind (b := 1) (w := w) (by decide) hCo_C_3 hX (by omega)) pd_yX4_stuckBehind ml_RX7_219 im_yX4_stuckBehind se_yX4_stuckBehind ini_RX4 cd_yX4_stuckBehind ⟨rfl, rfl⟩ ⟨Nat.le_of_ble_eq_true rfl, Nat.le_of_ble_eq_true rfl⟩ rfl rfl (Nat.le_of_ble_eq_true rfl) ⟨Nat.zero_le _, Nat.zero_le _⟩ dX7_change_28 (fun r u H locs hp hW _ _ => ?_)
      obtain ⟨ρ_4, TT_5⟩ := u
      obtain ⟨rfl, hp⟩ := hp
      have hp : TT_5 = va_up TT 1 (passN (xLx n τ) C_3 w).1 := hp.trans (bx_uu _ _ _ _)
      subst hp
      refine lv_as (z := behS (xLx n τ) C_3 w) rfl ?_
      refine lv_as (z := behS (xLx n τ) (TT 0) w) (hC_C_3.sbeh hCo_C_3 (xLx n τ) w) ?_
      refine lv_topi (fun v_6 ev_6 => ?_)
      refine lv_istore (lv' := [(4, .int v_6), (3, .int (-1)), (0, .ref (ad 0)), (1, .int (nI w)), (2, .int w0)]) hx hb dX7_change_31 hl (by decide) rfl (fun ls hl => ?_)
      refine lv_iconst (v := 0) hx hb dX7_change_33 (by decide) ?_
      refine lv_istore (lv' := [(5, .int 0), (4, .int v_6), (3, .int (-1)), (0, .ref (ad 0)), (1, .int (nI w)), (2, .int w0)]) hx hb dX7_change_34 hl (by decide) rfl (fun ls hl => ?_)
      have L36 : ∀ (k : Nat) (i : Nat) (ρ' : Nat → Nat → Int32) (X : Tb) (bb ff : Int32), (i ≤ seatsN (TT 0)) → (seatsN (TT 0) + 1 ≤ i + k) → ((chaK (xLx n τ) (TT 0) w i) = (bb, ff)) → ∀ (H : Heap) (locs : List Loc) (ls : Array Slot), XW D cs ad n ρ' (va_up TT 1 X) τ σ A s s.heap H locs → lv_has ls 8 [(5, .int (nI i)), (3, .int bb), (4, .int ff), (0, .ref (ad 0)), (1, .int (nI w)), (2, .int w0)] → W p l e rm_yX7_change s m ar below meth c H locs 0 0 Q (F0 m 36 ls []) := by
        intro k
        induction k with
        | zero => intro i ρ' X bb ff h1 h2 hBF; exact absurd h2 (by omega)
        | succ k ih36 =>
          intro i ρ' X bb ff h1 h2 hBF H locs ls hW hl
          refine lv_iload hx hb dX7_change_36 (lv_at hl 0 rfl) ?_
          refine lv_aload_n hx hb dX7_change_38 rfl (lv_at hl 3 rfl) ?_
          refine xr_O F hW 5 (by decide) rfl fl_RX7_50 dX7_change_39 ?_
          refine xr_Ti (b := 0) F hW (by decide) 1 (by decide) fl_RX7_67 dX7_change_42 ?_
          refine lv_as (z := TT 0 6 1) rfl ?_
          refine lv_as (z := nI (seatsN (TT 0))) (hsN) ?_
          refine lv_icmp_ge (tgt := 123) hx hb dX7_change_45 (by decide) (fun c_7 => ?_) (fun c_7 => ?_)
          ·
            obtain rfl : i = seatsN (TT 0) := by have := mi_le c_7 (by omega) (by omega); omega
            refine lv_iload_n hx hb dX7_change_123 rfl (lv_at hl 5 rfl) ?_
            refine lv_if_ne (tgt := 131) hx hb dX7_change_124 (by decide) (fun c_8 => ?_) (fun c_8 => ?_)
            ·
              refine lv_iload hx hb dX7_change_131 (lv_at hl 2 rfl) ?_
              exact hret ff (ρ', X) _ _ _ _ _ hW rfl rfl (by simp only [changeP, c_1, c_2, if_false, hiw, pickS]; rw [if_neg c_8]; simp only [hBF]) dX7_change_133
            ·
              refine lv_iload_n hx hb dX7_change_127 rfl (lv_at hl 1 rfl) ?_
              refine lv_goto (tgt := 133) hx hb dX7_change_128 (by decide) ?_
              exact hret bb (ρ', X) _ _ _ _ _ hW rfl rfl (by simp only [changeP, c_1, c_2, if_false, hiw, pickS]; rw [if_pos c_8]; simp only [hBF]) dX7_change_133
          ·
            have hlt : i < seatsN (TT 0) := mi_nle c_7 (by omega) (by omega); have hi6 : i < 6 := (by omega)
            refine lv_iload hx hb dX7_change_48 (lv_at hl 0 rfl) ?_
            refine lv_iconst (v := 1) hx hb dX7_change_50 (by decide) ?_
            refine lv_iadd hx hb dX7_change_51 ?_
            refine lv_as (z := nI (i + 1)) (nI_1 i) ?_
            refine lv_istore (lv' := [(6, .int (nI (i + 1))), (5, .int (nI i)), (3, .int bb), (4, .int ff), (0, .ref (ad 0)), (1, .int (nI w)), (2, .int w0)]) hx hb dX7_change_52 hl (by decide) rfl (fun ls hl => ?_)
            have L54 : ∀ (k : Nat) (j : Nat) (ρ2 : Nat → Nat → Int32) (X2 : Tb) (b2 f2 : Int32), (i + 1 + j ≤ seatsN (TT 0)) → (seatsN (TT 0) + 1 ≤ i + 1 + j + k) → ((chaJ (xLx n τ) (TT 0) w i (chaK (xLx n τ) (TT 0) w i) j) = (b2, f2)) → ∀ (H : Heap) (locs : List Loc) (ls : Array Slot), XW D cs ad n ρ2 (va_up TT 1 X2) τ σ A s s.heap H locs → lv_has ls 8 [(6, .int (nI (i + 1 + j))), (5, .int (nI i)), (3, .int b2), (4, .int f2), (0, .ref (ad 0)), (1, .int (nI w)), (2, .int w0)] → W p l e rm_yX7_change s m ar below meth c H locs 0 0 Q (F0 m 54 ls []) := by
              intro k
              induction k with
              | zero => intro j ρ2 X2 b2 f2 h3 h4 hJ; exact absurd h4 (by omega)
              | succ k ih54 =>
                intro j ρ2 X2 b2 f2 h3 h4 hJ H locs ls hW hl
                refine lv_iload hx hb dX7_change_54 (lv_at hl 0 rfl) ?_
                refine lv_aload_n hx hb dX7_change_56 rfl (lv_at hl 4 rfl) ?_
                refine xr_O F hW 5 (by decide) rfl fl_RX7_50 dX7_change_57 ?_
                refine xr_Ti (b := 0) F hW (by decide) 1 (by decide) fl_RX7_67 dX7_change_60 ?_
                refine lv_as (z := TT 0 6 1) rfl ?_
                refine lv_as (z := nI (seatsN (TT 0))) (hsN) ?_
                refine lv_icmp_ge (tgt := 117) hx hb dX7_change_63 (by decide) (fun c_9 => ?_) (fun c_9 => ?_)
                ·
                  have hje : j = seatsN (TT 0) - (i + 1) := by have := mi_le c_9 (by omega) (by omega); omega
                  refine lv_iinc (v := nI (i + 1)) (lv' := [(5, .int (nI (i + 1))), (6, .int (nI (i + 1 + j))), (3, .int b2), (4, .int f2), (0, .ref (ad 0)), (1, .int (nI w)), (2, .int w0)]) hx hb dX7_change_117 hl (k := 1) rfl (nI_1 i) (by decide) rfl (fun ls hl => ?_)
                  refine lv_goto (tgt := 36) hx hb dX7_change_120 (by decide) ?_
                  exact ih36 (i + 1) _ _ _ _ (by omega) (by omega) (by show chaJ (xLx n τ) (TT 0) w i (chaK (xLx n τ) (TT 0) w i) (seatsN (TT 0) - (i + 1)) = _; rw [← hje]; exact hJ) _ _ _ hW (lv_sub hl [0, 2, 3, 4, 5, 6] rfl)
                ·
                  have hlj : i + 1 + j < seatsN (TT 0) := mi_nle c_9 (by omega) (by omega)
                  refine lv_aload_n hx hb dX7_change_66 rfl (lv_at hl 4 rfl) ?_
                  refine gw_callVv (As := []) (rest := []) F hl.1 hW (fun _ _ hw => va_Nw.warmM hw hE) XE_E (by omega) xe_0 rfl (kX7_think (TT := TT) (X := X2) hT) pd_yX7_think ml_RX7_207 im_yX7_think se_yX7_think ini_RX7 cd_yX7_think ⟨rfl, rfl⟩ ⟨Nat.le_of_ble_eq_true rfl, Nat.le_of_ble_eq_true rfl⟩ rfl rfl (Nat.le_of_ble_eq_true rfl) ⟨Nat.zero_le _, Nat.zero_le _⟩ dX7_change_67 (fun C_10 H locs hp hW _ _ => ?_)
                  have hC_C_10 : EqT C_10 (TT 0) := hp
                  have hCo_C_10 : okT n C_10 := hC_C_10.symm.ok hT
                  have hCs_C_10 : seatsN C_10 = seatsN (TT 0) := hC_C_10.seats
                  refine lv_aload_n hx hb dX7_change_70 rfl (lv_at hl 4 rfl) ?_
                  refine xr_O F hW 6 (by decide) rfl fl_RX7_54 dX7_change_71 ?_
                  refine lv_iload hx hb dX7_change_74 (lv_at hl 1 rfl) ?_
                  refine lv_iload hx hb dX7_change_76 (lv_at hl 0 rfl) ?_
                  refine gw_callVv (As := [.int (nI i), .int (nI (i + 1 + j))]) (rest := []) F hl.1 hW (fun _ _ hw => va_Nw.warmM hw hE) XE_E (by omega) (xe_T (b := 1) (by decide)) rfl (kX4_exchange (b := 1) (q1 := i) (q2 := (i + 1 + j)) (by decide) (by omega) (by omega)) pd_yX4_exchange ml_RX7_198 im_yX4_exchange se_yX4_exchange ini_RX4 cd_yX4_exchange ⟨rfl, rfl⟩ ⟨Nat.le_of_ble_eq_true rfl, Nat.le_of_ble_eq_true rfl⟩ rfl rfl (Nat.le_of_ble_eq_true rfl) ⟨Nat.zero_le _, Nat.zero_le _⟩ dX7_change_78 (fun TT_11 H locs hp hW _ _ => ?_)
                  have hp : TT_11 = va_up TT 1 (swapS C_10 i (i + 1 + j)) := hp.trans (bx_uu _ _ _ _)
                  subst hp
                  refine lv_aload_n hx hb dX7_change_81 rfl (lv_at hl 4 rfl) ?_
                  refine xr_O F hW 6 (by decide) rfl fl_RX7_54 dX7_change_82 ?_
                  refine lv_iload_n hx hb dX7_change_85 rfl (lv_at hl 5 rfl) ?_
                  refine gw_callVi (As := [.int (nI w)]) (rest := []) F hl.1 hW (fun _ _ hw => va_Nw.warmM hw hE) XE_E (by omega) (xe_T (b := 1) (by decide)) rfl (kX4_stuckBehind (b := 1) (w := w) (by decide) (ok_swap hCo_C_10 (by omega) (by omega)).1 hX (by omega)) pd_yX4_stuckBehind ml_RX7_219 im_yX4_stuckBehind se_yX4_stuckBehind ini_RX4 cd_yX4_stuckBehind ⟨rfl, rfl⟩ ⟨Nat.le_of_ble_eq_true rfl, Nat.le_of_ble_eq_true rfl⟩ rfl rfl (Nat.le_of_ble_eq_true rfl) ⟨Nat.zero_le _, Nat.zero_le _⟩ dX7_change_86 (fun r u H locs hp hW _ _ => ?_)
                  obtain ⟨ρ_12, TT_13⟩ := u
                  obtain ⟨rfl, hp⟩ := hp
                  have hp : TT_13 = va_up TT 1 (passN (xLx n τ) (swapS C_10 i (i + 1 + j)) w).1 := hp.trans (bx_uu _ _ _ _)
                  subst hp
                  refine lv_as (z := behS (xLx n τ) (swapS C_10 i (i + 1 + j)) w) rfl ?_
                  refine lv_as (z := behS (xLx n τ) (swapS (TT 0) i (i + 1 + j)) w) ((hC_C_10.swap (by omega) (by omega) hCo_C_10.1).sbeh (ok_swap hCo_C_10 (by omega) (by omega)).1 (xLx n τ) w) ?_
                  refine lv_topi (fun vv evv => ?_)
                  refine lv_istore (lv' := [(7, .int vv), (6, .int (nI (i + 1 + j))), (5, .int (nI i)), (3, .int b2), (4, .int f2), (0, .ref (ad 0)), (1, .int (nI w)), (2, .int w0)]) hx hb dX7_change_89 hl (by decide) rfl (fun ls hl => ?_)
                  refine lv_iload hx hb dX7_change_91 (lv_at hl 0 rfl) ?_
                  refine lv_iload hx hb dX7_change_93 (lv_at hl 4 rfl) ?_
                  refine lv_icmp_ge (tgt := 111) hx hb dX7_change_95 (by decide) (fun c_14 => ?_) (fun c_14 => ?_)
                  ·
                    refine lv_iinc (v := nI (i + 1 + j + 1)) (lv' := [(6, .int (nI (i + 1 + j + 1))), (7, .int vv), (5, .int (nI i)), (3, .int b2), (4, .int f2), (0, .ref (ad 0)), (1, .int (nI w)), (2, .int w0)]) hx hb dX7_change_111 hl (k := 1) rfl (nI_1 (i + 1 + j)) (by decide) rfl (fun ls hl => ?_)
                    refine lv_goto (tgt := 54) hx hb dX7_change_114 (by decide) ?_
                    exact ih54 (j + 1) _ _ _ _ (by omega) (by omega) (by show lessS (chaJ (xLx n τ) (TT 0) w i (chaK (xLx n τ) (TT 0) w i) j) _ _ = _; rw [hJ]; unfold lessS; rw [if_neg (by rw [← evv]; exact Int32.not_lt.mpr c_14)]) _ _ _ hW (lv_sub hl [0, 2, 3, 4, 5, 6, 7] rfl)
                  ·
                    refine lv_bipush (v := 10) hx hb dX7_change_98 (by decide) ?_
                    refine lv_iload hx hb dX7_change_100 (lv_at hl 2 rfl) ?_
                    refine lv_imul hx hb dX7_change_102 ?_
                    refine lv_iload hx hb dX7_change_103 (lv_at hl 1 rfl) ?_
                    refine lv_iadd hx hb dX7_change_105 ?_
                    refine lv_topi (fun v_15 ev_15 => ?_)
                    refine lv_istore_n (lv' := [(3, .int v_15), (7, .int vv), (6, .int (nI (i + 1 + j))), (5, .int (nI i)), (4, .int f2), (0, .ref (ad 0)), (1, .int (nI w)), (2, .int w0)]) hx hb dX7_change_106 rfl hl (by decide) rfl (fun ls hl => ?_)
                    refine lv_iload hx hb dX7_change_107 (lv_at hl 1 rfl) ?_
                    refine lv_istore (lv' := [(4, .int vv), (3, .int v_15), (7, .int vv), (6, .int (nI (i + 1 + j))), (5, .int (nI i)), (0, .ref (ad 0)), (1, .int (nI w)), (2, .int w0)]) hx hb dX7_change_109 hl (by decide) rfl (fun ls hl => ?_)
                    refine lv_iinc (v := nI (i + 1 + j + 1)) (lv' := [(6, .int (nI (i + 1 + j + 1))), (4, .int vv), (3, .int v_15), (7, .int vv), (5, .int (nI i)), (0, .ref (ad 0)), (1, .int (nI w)), (2, .int w0)]) hx hb dX7_change_111 hl (k := 3) rfl (nI_1 (i + 1 + j)) (by decide) rfl (fun ls hl => ?_)
                    refine lv_goto (tgt := 54) hx hb dX7_change_114 (by decide) ?_
                    exact ih54 (j + 1) _ _ _ _ (by omega) (by omega) (by show lessS (chaJ (xLx n τ) (TT 0) w i (chaK (xLx n τ) (TT 0) w i) j) _ _ = _; rw [hJ]; unfold lessS; rw [if_pos (by rw [← evv]; exact Int32.not_le.mp c_14), ← evv, ev_15]) _ _ _ hW (lv_sub hl [0, 4, 2, 1, 5, 6, 7] rfl)
            exact L54 (seatsN (TT 0) + 1) 0 _ _ _ _ (by omega) (by omega) (hBF) _ _ _ hW (lv_sub hl [0, 1, 2, 3, 4, 5, 6] rfl)
      exact L36 (seatsN (TT 0) + 1) 0 _ _ _ _ (Nat.zero_le _) (by omega) (by rw [ev_6]; rfl) _ _ _ hW (lv_sub hl [0, 2, 1, 3, 4, 5] rfl)
    ·
      refine lv_bipush (v := (-2)) hx hb dX7_change_14 (by decide) ?_
      exact hret (-2) (ρ, (TT 1)) _ _ _ _ _ hW rfl rfl (by (try simp only [i32_le, Decidable.not_not] at c_1); (try simp only [i32_le, Decidable.not_not] at c_2); first | (simp only [changeP, i32_le, c_1, c_2, if_true, if_false, not_false_eq_true, not_true_eq_false]; done) | simp [changeP, c_1, c_2, i32_le]) dX7_change_16
theorem upT_upT (T : Tb) (q k : Nat) (v w : Int32) : upT (upT T q k v) q k w = upT T q k w := by
  unfold upT
  rw [va_up_self, bx_uu]
  congr 1
  funext j
  by_cases h : j = k
  · subst h; rw [pk_us, pk_us]
  · rw [pk_un h, pk_un h, pk_un h]
theorem EqT.over {n : Nat} {C T : Tb} (h : EqT C T) {q : Nat} (hq : q < 6) (k : Nat) (v : Int32) : EqT (upT C q k v) (upT T q k v) := h.put hq k (fun _ => rfl)
abbrev rm_yX7_bold : Room := { frames := 5, cells := 0, slots := 0, locals := 111 }
set_option maxHeartbeats 800000 in
set_option maxRecDepth 100000 in
theorem kX7_bold {l : Launch} {D : va_G} {cs : Nat → ClassId} {ad : Nat → Nat} {n : Nat} {ρ σ : Nat → Nat → Int32} {TT τ : Nat → Nat → Nat → Int32} {sz : Nat} {pp : Int32} (hO : okO n TT τ σ) : XMi l yX7_bold cX7_bold 4 FieldType.int rm_yX7_bold [.ref (ad 0), .int pp] D cs ad n ρ TT τ σ sz (fun (r : Int32) (u : (Nat → Nat → Int32) × Tb) => r = boldP (xLx n τ) (TT 0) pp) (fun u : (Nat → Nat → Int32) × Tb => xent ad cs n u.1 (va_up TT 1 u.2) τ σ) := by
  refine gw_stI (Ff := fun u : (Nat → Nat → Int32) × Tb => xent ad cs n u.1 (va_up TT 1 u.2) τ σ) (own := RX7) (by decide +kernel) rfl (Nat.le_of_ble_eq_true rfl) ?_
  intro p e s m ar below meth c A Q F hE hsz hW hret ls hl
  obtain ⟨hx, hb, hml, hown, hts⟩ := id F
  have hl : lv_has ls 4 [(0, .ref (ad 0)), (1, .int pp)] := hl
  obtain ⟨hn1, hn6, hT, hX, hc, hnum⟩ := hO
  have hs6 := hT.1
  have hsN := hT.2.1
  have ht0 : (TT 0 6 3).toNatClampNeg < n := hT.2.2.1
  have hW : XW D cs ad n ρ (va_up TT 1 (TT 1)) τ σ A s s.heap s.heap [] := by rw [va_up_eta]; exact hW
  refine lv_aload_n hx hb dX7_bold_0 rfl (lv_at hl 0 rfl) ?_
  refine xr_O F hW 5 (by decide) rfl fl_RX7_50 dX7_bold_1 ?_
  refine lv_iload_n hx hb dX7_bold_4 rfl (lv_at hl 1 rfl) ?_
  refine gw_callVi (As := [.int pp]) (rest := []) F hl.1 hW (fun _ _ hw => va_Nw.warmM hw hE) XE_E (by omega) (xe_T (b := 0) (by decide)) rfl (kX4_seatsOne (b := 0) (by decide)) pd_yX4_seatsOne ml_RX7_125 im_yX4_seatsOne se_yX4_seatsOne ini_RX4 cd_yX4_seatsOne ⟨rfl, rfl⟩ ⟨Nat.le_of_ble_eq_true rfl, Nat.le_of_ble_eq_true rfl⟩ rfl rfl (Nat.le_of_ble_eq_true rfl) ⟨Nat.zero_le _, Nat.zero_le _⟩ dX7_bold_5 (fun r u H locs hp hW _ _ => ?_)
  subst hp
  refine lv_as (z := oneP (TT 0) pp) rfl ?_
  refine lv_if_ne (tgt := 14) hx hb dX7_bold_8 (by decide) (fun c_1 => ?_) (fun c_1 => ?_)
  ·
    obtain ⟨q, hq, rfl⟩ := one_nat hT c_1; have hq6 : q < 6 := seats_le hT hq; have hiq : iN (nI q) = q := iN_nI (by omega); have hG := hT.2.2.2.2 q hq
    refine lv_aload_n hx hb dX7_bold_14 rfl (lv_at hl 0 rfl) ?_
    refine gw_callVv (As := []) (rest := []) F hl.1 hW (fun _ _ hw => va_Nw.warmM hw hE) XE_E (by omega) xe_0 rfl (kX7_think (TT := TT) (X := (TT 1)) hT) pd_yX7_think ml_RX7_207 im_yX7_think se_yX7_think ini_RX7 cd_yX7_think ⟨rfl, rfl⟩ ⟨Nat.le_of_ble_eq_true rfl, Nat.le_of_ble_eq_true rfl⟩ rfl rfl (Nat.le_of_ble_eq_true rfl) ⟨Nat.zero_le _, Nat.zero_le _⟩ dX7_bold_15 (fun C_2 H locs hp hW _ _ => ?_)
    have hC_C_2 : EqT C_2 (TT 0) := hp
    have hCo_C_2 : okT n C_2 := hC_C_2.symm.ok hT
    have hCs_C_2 : seatsN C_2 = seatsN (TT 0) := hC_C_2.seats
    refine lv_aload_n hx hb dX7_bold_18 rfl (lv_at hl 0 rfl) ?_
    refine xr_O F hW 6 (by decide) rfl fl_RX7_54 dX7_bold_19 ?_
    refine xr_Tg (b := 1) F hW (by decide) fl_RX7_128 dX7_bold_22 ?_
    refine lv_iload_n hx hb dX7_bold_25 rfl (lv_at hl 1 rfl) ?_
    refine xr_Rn (b := 1) (q := q) rfl (by omega) F hW (by decide) dX7_bold_26 ?_
    refine lv_astore_n (lv' := [(2, .ref (ad (9 + 8 * 1 + 1 + 1 + q))), (0, .ref (ad 0)), (1, .int (nI q))]) hx hb dX7_bold_27 rfl hl (by decide) rfl (fun ls hl => ?_)
    refine lv_bipush (v := 99) hx hb dX7_bold_28 (by decide) ?_
    refine lv_istore_n (lv' := [(3, .int 99), (2, .ref (ad (9 + 8 * 1 + 1 + 1 + q))), (0, .ref (ad 0)), (1, .int (nI q))]) hx hb dX7_bold_30 rfl hl (by decide) rfl (fun ls hl => ?_)
    generalize hR0 : boldK (xLx n τ) (TT 0) q 100 = RES
    have L31 : ∀ (k : Nat) (j : Nat) (x : Int32) (ρ' : Nat → Nat → Int32) (X : Tb), (j + 1 ≤ k) → (j ≤ 100) → (x = nI j - 1) → (boldK (xLx n τ) (TT 0) q j = RES) → (okT n X) → (seatsN X = seatsN (TT 0)) → (∀ v, EqT (upT X q 3 v) (upT (TT 0) q 3 v)) → ∀ (H : Heap) (locs : List Loc) (ls : Array Slot), XW D cs ad n ρ' (va_up TT 1 X) τ σ A s s.heap H locs → lv_has ls 4 [(3, .int x), (2, .ref (ad (9 + 8 * 1 + 1 + 1 + q))), (0, .ref (ad 0)), (1, .int (nI q))] → W p l e rm_yX7_bold s m ar below meth c H locs 0 0 Q (F0 m 31 ls []) := by
      intro k
      induction k with
      | zero => intro j x ρ' X h2 hj hxv hRR hX1 hXs hXE; exact absurd h2 (by omega)
      | succ k ih31 =>
        intro j x ρ' X h2 hj hxv hRR hX1 hXs hXE H locs ls hW hl
        refine lv_iload_n hx hb dX7_bold_31 rfl (lv_at hl 0 rfl) ?_
        refine lv_if_lt (tgt := 59) hx hb dX7_bold_32 (by decide) (fun c_3 => ?_) (fun c_3 => ?_)
        ·
          obtain rfl : j = 0 := by rcases j with _ | j; rfl; rw [hxv, nI_pred] at c_3; exact absurd c_3 (nI_pos (by omega))
          refine lv_iconst (v := (-1)) hx hb dX7_bold_59 (by decide) ?_
          exact hret (-1) (ρ', X) _ _ _ _ _ hW rfl rfl (by simp only [boldP, c_1, if_false, hiq]; rw [hR0, ← hRR]; rfl) dX7_bold_60
        ·
          obtain ⟨j', rfl⟩ : ∃ z, j = z + 1 := by rcases j with _ | j; exact absurd (by rw [hxv]; decide) c_3; exact ⟨j, rfl⟩
          have hxj : x = nI j' := by rw [hxv, nI_pred]
          refine lv_aload_n hx hb dX7_bold_35 rfl (lv_at hl 1 rfl) ?_
          refine lv_iload_n hx hb dX7_bold_36 rfl (lv_at hl 0 rfl) ?_
          refine xw_G (b := 1) (q := q) F hW (by decide) (by omega) 3 (by decide) fl_RX7_232 rfl (ty := .int) rfl rfl rfl dX7_bold_37 (fun H locs hW => ?_)
          have hW : XW D cs ad n ρ' (va_up TT 1 (upT X q 3 x)) τ σ A s s.heap H locs := by rw [bx_uu] at hW; exact hW
          refine lv_aload_n hx hb dX7_bold_40 rfl (lv_at hl 2 rfl) ?_
          refine xr_O F hW 6 (by decide) rfl fl_RX7_54 dX7_bold_41 ?_
          refine lv_aload_n hx hb dX7_bold_44 rfl (lv_at hl 1 rfl) ?_
          refine gw_callVi (As := [.ref (ad (9 + 8 * 1 + 1 + 1 + q))]) (rest := []) F hl.1 hW (fun _ _ hw => va_Nw.warmM hw hE) XE_E (by omega) (xe_T (b := 1) (by decide)) rfl (kX4_isStuck (b := 1) (by decide) (ok_upT hX1 hq6 (fun hz => okG_3 (hX1.2.2.2.2 q hz) ⟨j', by omega, hxj⟩)) (by show q < seatsN ((upT X q 3 x)); rw [seats_upT (by omega), hXs]; exact hq) hX) pd_yX4_isStuck ml_RX7_162 im_yX4_isStuck se_yX4_isStuck ini_RX4 cd_yX4_isStuck ⟨rfl, rfl⟩ ⟨Nat.le_of_ble_eq_true rfl, Nat.le_of_ble_eq_true rfl⟩ rfl rfl (Nat.le_of_ble_eq_true rfl) ⟨Nat.zero_le _, Nat.zero_le _⟩ dX7_bold_45 (fun r ρ_4 H locs hp hW _ _ => ?_)
          subst hp
          refine lv_as (z := stuckS (xLx n τ) (upT X q 3 x) q) rfl ?_
          refine lv_as (z := stuckS (xLx n τ) (upT (TT 0) q 3 (nI j')) q) (by rw [hxj]; exact (hXE (nI j')).stuck (xLx n τ) (by rw [seats_upT (by omega), hXs]; exact hq)) ?_
          refine lv_if_ne (tgt := 53) hx hb dX7_bold_48 (by decide) (fun c_5 => ?_) (fun c_5 => ?_)
          ·
            obtain ⟨v_6, ev_6⟩ : ∃ z : Int32, z = x + (-1) := ⟨_, rfl⟩
            refine lv_iinc (v := v_6) (lv' := [(3, .int v_6), (2, .ref (ad (9 + 8 * 1 + 1 + 1 + q))), (0, .ref (ad 0)), (1, .int (nI q))]) hx hb dX7_bold_53 hl (k := 0) rfl (by rw [ev_6]; rfl) (by decide) rfl (fun ls hl => ?_)
            refine lv_goto (tgt := 31) hx hb dX7_bold_56 (by decide) ?_
            exact ih31 j' _ _ _ (by omega) (by omega) (by rw [ev_6, hxj]; exact (Int32.sub_eq_add_neg _ _).symm) (by rw [← hRR]; exact (if_neg c_5).symm) ((ok_upT hX1 hq6 (fun hz => okG_3 (hX1.2.2.2.2 q hz) ⟨j', by omega, hxj⟩))) (by rw [seats_upT (by omega)]; exact hXs) (fun v => by rw [upT_upT]; exact hXE v) _ _ _ hW (lv_sub hl [0, 1, 2, 3] rfl)
          ·
            refine lv_iload_n hx hb dX7_bold_51 rfl (lv_at hl 0 rfl) ?_
            exact hret x (ρ_4, (upT X q 3 x)) _ _ _ _ _ hW rfl rfl (by simp only [boldP, c_1, if_false, hiq]; rw [hR0, ← hRR, hxj]; exact (if_pos c_5).symm) dX7_bold_52
    exact L31 101 100 99 _ _ (by omega) (by omega) (rfl) (hR0) (hCo_C_2) (hCs_C_2) (fun v => hC_C_2.over (n := n) hq6 3 v) _ _ _ hW (lv_sub hl [0, 1, 2, 3] rfl)
  ·
    refine lv_bipush (v := (-5)) hx hb dX7_bold_11 (by decide) ?_
    exact hret (-5) (ρ, (TT 1)) _ _ _ _ _ hW rfl rfl (by (try simp only [i32_le, Decidable.not_not] at c_1); first | (simp only [boldP, i32_le, c_1, if_true, if_false, not_false_eq_true, not_true_eq_false]; done) | simp [boldP, c_1, i32_le]) dX7_bold_13
theorem EqT.fkf {n : Nat} {T U : Tb} (h : EqT T U) (Lx : Lw) {q : Nat} (hq : q < seatsN T) (hT : okT n T) : ∀ k, forgK Lx T q k = forgK Lx U q k
  | 0 => rfl
  | k + 1 => by
    have h6 := hT.1
    have e1 := h.2.2.2 q hq 2 (by decide)
    have e2 : stuckS Lx (upT T q 2 (T q 2 ^^^ nI k)) q = stuckS Lx (upT U q 2 (U q 2 ^^^ nI k)) q := by
      rw [e1]; exact (h.over (n := n) (by omega) 2 _).stuck Lx (by rw [seats_upT (by omega)]; exact hq)
    unfold forgK
    rw [e1] at e2 ⊢
    rw [e2, EqT.fkf h Lx hq hT k]
abbrev rm_yX7_forgive : Room := { frames := 5, cells := 0, slots := 0, locals := 111 }
set_option maxHeartbeats 800000 in
set_option maxRecDepth 100000 in
theorem kX7_forgive {l : Launch} {D : va_G} {cs : Nat → ClassId} {ad : Nat → Nat} {n : Nat} {ρ σ : Nat → Nat → Int32} {TT τ : Nat → Nat → Nat → Int32} {sz : Nat} {pp w0 : Int32} (hO : okO n TT τ σ) : XMi l yX7_forgive cX7_forgive 8 FieldType.int rm_yX7_forgive [.ref (ad 0), .int pp, .int w0] D cs ad n ρ TT τ σ sz (fun (r : Int32) (u : (Nat → Nat → Int32) × Tb) => r = forgiveP (xLx n τ) (TT 0) pp w0) (fun u : (Nat → Nat → Int32) × Tb => xent ad cs n u.1 (va_up TT 1 u.2) τ σ) := by
  refine gw_stI (Ff := fun u : (Nat → Nat → Int32) × Tb => xent ad cs n u.1 (va_up TT 1 u.2) τ σ) (own := RX7) (by decide +kernel) rfl (Nat.le_of_ble_eq_true rfl) ?_
  intro p e s m ar below meth c A Q F hE hsz hW hret ls hl
  obtain ⟨hx, hb, hml, hown, hts⟩ := id F
  have hl : lv_has ls 8 [(0, .ref (ad 0)), (1, .int pp), (2, .int w0)] := hl
  obtain ⟨hn1, hn6, hT, hX, hc, hnum⟩ := hO
  have hs6 := hT.1
  have hsN := hT.2.1
  have ht0 : (TT 0 6 3).toNatClampNeg < n := hT.2.2.1
  have hW : XW D cs ad n ρ (va_up TT 1 (TT 1)) τ σ A s s.heap s.heap [] := by rw [va_up_eta]; exact hW
  refine lv_aload_n hx hb dX7_forgive_0 rfl (lv_at hl 0 rfl) ?_
  refine xr_O F hW 5 (by decide) rfl fl_RX7_50 dX7_forgive_1 ?_
  refine lv_iload_n hx hb dX7_forgive_4 rfl (lv_at hl 1 rfl) ?_
  refine gw_callVi (As := [.int pp]) (rest := []) F hl.1 hW (fun _ _ hw => va_Nw.warmM hw hE) XE_E (by omega) (xe_T (b := 0) (by decide)) rfl (kX4_seatsOne (b := 0) (by decide)) pd_yX4_seatsOne ml_RX7_125 im_yX4_seatsOne se_yX4_seatsOne ini_RX4 cd_yX4_seatsOne ⟨rfl, rfl⟩ ⟨Nat.le_of_ble_eq_true rfl, Nat.le_of_ble_eq_true rfl⟩ rfl rfl (Nat.le_of_ble_eq_true rfl) ⟨Nat.zero_le _, Nat.zero_le _⟩ dX7_forgive_5 (fun r u H locs hp hW _ _ => ?_)
  subst hp
  refine lv_as (z := oneP (TT 0) pp) rfl ?_
  refine lv_if_ne (tgt := 14) hx hb dX7_forgive_8 (by decide) (fun c_1 => ?_) (fun c_1 => ?_)
  ·
    obtain ⟨q, hq, rfl⟩ := one_nat hT c_1; have hq6 : q < 6 := seats_le hT hq; have hiq : iN (nI q) = q := iN_nI (by omega); have hG := hT.2.2.2.2 q hq
    refine lv_iload_n hx hb dX7_forgive_14 rfl (lv_at hl 2 rfl) ?_
    refine gw_callP (As := [.int w0]) (rest := []) F hl.1 (kX7_isChoice) pd_yX7_isChoice ml_RX7_216 st_yX7_isChoice ini_RX7 cd_yX7_isChoice ⟨rfl, rfl⟩ ⟨Nat.le_of_ble_eq_true rfl, Nat.le_of_ble_eq_true rfl⟩ rfl rfl (Nat.le_of_ble_eq_true rfl) ⟨Nat.zero_le _, Nat.zero_le _⟩ dX7_forgive_15 ?_
    refine lv_as (z := choP w0) rfl ?_
    refine lv_if_ne (tgt := 24) hx hb dX7_forgive_18 (by decide) (fun c_2 => ?_) (fun c_2 => ?_)
    ·
      refine lv_aload_n hx hb dX7_forgive_24 rfl (lv_at hl 0 rfl) ?_
      refine gw_callVv (As := []) (rest := []) F hl.1 hW (fun _ _ hw => va_Nw.warmM hw hE) XE_E (by omega) xe_0 rfl (kX7_think (TT := TT) (X := (TT 1)) hT) pd_yX7_think ml_RX7_207 im_yX7_think se_yX7_think ini_RX7 cd_yX7_think ⟨rfl, rfl⟩ ⟨Nat.le_of_ble_eq_true rfl, Nat.le_of_ble_eq_true rfl⟩ rfl rfl (Nat.le_of_ble_eq_true rfl) ⟨Nat.zero_le _, Nat.zero_le _⟩ dX7_forgive_25 (fun C_3 H locs hp hW _ _ => ?_)
      have hC_C_3 : EqT C_3 (TT 0) := hp
      have hCo_C_3 : okT n C_3 := hC_C_3.symm.ok hT
      have hCs_C_3 : seatsN C_3 = seatsN (TT 0) := hC_C_3.seats
      refine lv_aload_n hx hb dX7_forgive_28 rfl (lv_at hl 0 rfl) ?_
      refine xr_O F hW 6 (by decide) rfl fl_RX7_54 dX7_forgive_29 ?_
      refine xr_Tg (b := 1) F hW (by decide) fl_RX7_128 dX7_forgive_32 ?_
      refine lv_iload_n hx hb dX7_forgive_35 rfl (lv_at hl 1 rfl) ?_
      refine xr_Rn (b := 1) (q := q) rfl (by omega) F hW (by decide) dX7_forgive_36 ?_
      refine lv_astore_n (lv' := [(3, .ref (ad (9 + 8 * 1 + 1 + 1 + q))), (0, .ref (ad 0)), (1, .int (nI q)), (2, .int w0)]) hx hb dX7_forgive_37 rfl hl (by decide) rfl (fun ls hl => ?_)
      refine lv_aload_n hx hb dX7_forgive_38 rfl (lv_at hl 0 rfl) ?_
      refine xr_G (b := 1) (q := q) F hW (by decide) (by omega) 2 (by decide) fl_RX7_201 dX7_forgive_39 ?_
      refine lv_as (z := C_3 q 2) rfl ?_
      refine lv_as (z := TT 0 q 2) (hC_C_3.2.2.2 q (by rw [hCs_C_3]; exact hq) 2 (by decide)) ?_
      obtain ⟨wn, hwn, hwe⟩ := hG.2.2.1
      refine lv_istore (lv' := [(4, .int (TT 0 q 2)), (3, .ref (ad (9 + 8 * 1 + 1 + 1 + q))), (0, .ref (ad 0)), (1, .int (nI q)), (2, .int w0)]) hx hb dX7_forgive_42 hl (by decide) rfl (fun ls hl => ?_)
      refine lv_iconst (v := (-1)) hx hb dX7_forgive_44 (by decide) ?_
      refine lv_istore (lv' := [(5, .int (-1)), (4, .int (TT 0 q 2)), (3, .ref (ad (9 + 8 * 1 + 1 + 1 + q))), (0, .ref (ad 0)), (1, .int (nI q)), (2, .int w0)]) hx hb dX7_forgive_45 hl (by decide) rfl (fun ls hl => ?_)
      refine lv_bipush (v := 11) hx hb dX7_forgive_47 (by decide) ?_
      refine lv_istore (lv' := [(6, .int 11), (5, .int (-1)), (4, .int (TT 0 q 2)), (3, .ref (ad (9 + 8 * 1 + 1 + 1 + q))), (0, .ref (ad 0)), (1, .int (nI q)), (2, .int w0)]) hx hb dX7_forgive_49 hl (by decide) rfl (fun ls hl => ?_)
      refine lv_iconst (v := 0) hx hb dX7_forgive_51 (by decide) ?_
      refine lv_istore (lv' := [(7, .int 0), (6, .int 11), (5, .int (-1)), (4, .int (TT 0 q 2)), (3, .ref (ad (9 + 8 * 1 + 1 + 1 + q))), (0, .ref (ad 0)), (1, .int (nI q)), (2, .int w0)]) hx hb dX7_forgive_52 hl (by decide) rfl (fun ls hl => ?_)
      have L54 : ∀ (k : Nat) (i : Nat) (ρ' : Nat → Nat → Int32) (X : Tb) (bb ff : Int32), (i ≤ 1024) → (1025 ≤ i + k) → ((forgK (xLx n τ) (TT 0) q i) = (bb, ff)) → (okT n X) → (seatsN X = seatsN (TT 0)) → (∀ v, EqT (upT X q 2 v) (upT (TT 0) q 2 v)) → ∀ (H : Heap) (locs : List Loc) (ls : Array Slot), XW D cs ad n ρ' (va_up TT 1 X) τ σ A s s.heap H locs → lv_has ls 8 [(7, .int (nI i)), (5, .int bb), (6, .int ff), (4, .int (TT 0 q 2)), (3, .ref (ad (9 + 8 * 1 + 1 + 1 + q))), (0, .ref (ad 0)), (1, .int (nI q)), (2, .int w0)] → W p l e rm_yX7_forgive s m ar below meth c H locs 0 0 Q (F0 m 54 ls []) := by
        intro k
        induction k with
        | zero => intro i ρ' X bb ff h1 h2 hBF hX1 hXs hXE; exact absurd h2 (by omega)
        | succ k ih54 =>
          intro i ρ' X bb ff h1 h2 hBF hX1 hXs hXE H locs ls hW hl
          refine lv_iload hx hb dX7_forgive_54 (lv_at hl 0 rfl) ?_
          refine lv_sipush (v := 1023) hx hb dX7_forgive_56 (by decide) ?_
          refine lv_icmp_gt (tgt := 119) hx hb dX7_forgive_59 (by decide) (fun c_4 => ?_) (fun c_4 => ?_)
          ·
            obtain rfl : i = 1024 := by have := mi_lt (a := 1023) (b := i) c_4 (by decide) (by omega); omega
            refine lv_iload_n hx hb dX7_forgive_119 rfl (lv_at hl 7 rfl) ?_
            refine lv_if_eq (tgt := 129) hx hb dX7_forgive_120 (by decide) (fun c_5 => ?_) (fun c_5 => ?_)
            ·
              refine lv_iload hx hb dX7_forgive_129 (lv_at hl 1 rfl) ?_
              refine lv_goto (tgt := 136) hx hb dX7_forgive_131 (by decide) ?_
              exact hret bb (ρ', X) _ _ _ _ _ hW rfl rfl (by simp only [forgiveP, c_1, c_2, if_false, hiq, hBF]; rw [if_pos c_5]) dX7_forgive_136
            ·
              refine lv_iload hx hb dX7_forgive_123 (lv_at hl 1 rfl) ?_
              refine lv_iconst (v := (-1)) hx hb dX7_forgive_125 (by decide) ?_
              refine lv_icmp_ne (tgt := 134) hx hb dX7_forgive_126 (by decide) (fun c_6 => ?_) (fun c_6 => ?_)
              ·
                refine lv_iload hx hb dX7_forgive_134 (lv_at hl 2 rfl) ?_
                exact hret ff (ρ', X) _ _ _ _ _ hW rfl rfl (by simp only [forgiveP, c_1, c_2, if_false, hiq, hBF]; rw [if_neg c_5, if_neg c_6]) dX7_forgive_136
              ·
                refine lv_iload hx hb dX7_forgive_129 (lv_at hl 1 rfl) ?_
                refine lv_goto (tgt := 136) hx hb dX7_forgive_131 (by decide) ?_
                exact hret bb (ρ', X) _ _ _ _ _ hW rfl rfl (by simp only [forgiveP, c_1, c_2, if_false, hiq, hBF]; rw [if_neg c_5, if_pos c_6]; exact c_6) dX7_forgive_136
          ·
            have hlt : i < 1024 := by have := mi_nlt (a := 1023) (b := i) c_4 (by decide) (by omega); omega
            refine lv_iload hx hb dX7_forgive_62 (lv_at hl 0 rfl) ?_
            refine lv_iload hx hb dX7_forgive_64 (lv_at hl 3 rfl) ?_
            refine lv_iand hx hb dX7_forgive_66 ?_
            refine lv_iload hx hb dX7_forgive_67 (lv_at hl 0 rfl) ?_
            refine lv_icmp_ne (tgt := 113) hx hb dX7_forgive_69 (by decide) (fun c_7 => ?_) (fun c_7 => ?_)
            ·
              refine lv_iinc (v := nI (i + 1)) (lv' := [(7, .int (nI (i + 1))), (5, .int bb), (6, .int ff), (4, .int (TT 0 q 2)), (3, .ref (ad (9 + 8 * 1 + 1 + 1 + q))), (0, .ref (ad 0)), (1, .int (nI q)), (2, .int w0)]) hx hb dX7_forgive_113 hl (k := 0) rfl (nI_1 i) (by decide) rfl (fun ls hl => ?_)
              refine lv_goto (tgt := 54) hx hb dX7_forgive_116 (by decide) ?_
              exact ih54 (i + 1) _ _ _ _ (by omega) (by omega) (by show (if nI i &&& TT 0 q 2 = nI i then (if onesS (nI i) < (forgK (xLx n τ) (TT 0) q i).2 then (if stuckS (xLx n τ) (upT (TT 0) q 2 (TT 0 q 2 ^^^ nI i)) q = 0 then (nI i, onesS (nI i)) else forgK (xLx n τ) (TT 0) q i) else forgK (xLx n τ) (TT 0) q i) else forgK (xLx n τ) (TT 0) q i) = _; rw [if_neg c_7]; exact hBF) (hX1) (hXs) (hXE) _ _ _ hW (lv_sub hl [0, 1, 2, 3, 4, 5, 6, 7] rfl)
            ·
              refine lv_iload hx hb dX7_forgive_72 (lv_at hl 0 rfl) ?_
              refine gw_callP (As := [.int (nI i)]) (rest := []) F hl.1 (kJ6_bitCount_0f7a4) pd_yJ6_bitCount_0f7a4 ml_RX7_77 st_yJ6_bitCount_0f7a4 ini_RJ6 cd_yJ6_bitCount_0f7a4 ⟨rfl, rfl⟩ ⟨Nat.le_of_ble_eq_true rfl, Nat.le_of_ble_eq_true rfl⟩ rfl rfl (Nat.le_of_ble_eq_true rfl) ⟨Nat.zero_le _, Nat.zero_le _⟩ dX7_forgive_74 ?_
              refine lv_as (z := onesS (nI i)) (bc_ones i hlt) ?_
              refine lv_iload hx hb dX7_forgive_77 (lv_at hl 2 rfl) ?_
              refine lv_icmp_ge (tgt := 113) hx hb dX7_forgive_79 (by decide) (fun c_8 => ?_) (fun c_8 => ?_)
              ·
                refine lv_iinc (v := nI (i + 1)) (lv' := [(7, .int (nI (i + 1))), (5, .int bb), (6, .int ff), (4, .int (TT 0 q 2)), (3, .ref (ad (9 + 8 * 1 + 1 + 1 + q))), (0, .ref (ad 0)), (1, .int (nI q)), (2, .int w0)]) hx hb dX7_forgive_113 hl (k := 0) rfl (nI_1 i) (by decide) rfl (fun ls hl => ?_)
                refine lv_goto (tgt := 54) hx hb dX7_forgive_116 (by decide) ?_
                exact ih54 (i + 1) _ _ _ _ (by omega) (by omega) (by show (if nI i &&& TT 0 q 2 = nI i then (if onesS (nI i) < (forgK (xLx n τ) (TT 0) q i).2 then (if stuckS (xLx n τ) (upT (TT 0) q 2 (TT 0 q 2 ^^^ nI i)) q = 0 then (nI i, onesS (nI i)) else forgK (xLx n τ) (TT 0) q i) else forgK (xLx n τ) (TT 0) q i) else forgK (xLx n τ) (TT 0) q i) = _; rw [if_pos c_7, hBF, if_neg (Int32.not_lt.mpr c_8)]) (hX1) (hXs) (hXE) _ _ _ hW (lv_sub hl [0, 1, 2, 3, 4, 5, 6, 7] rfl)
              ·
                refine lv_aload_n hx hb dX7_forgive_82 rfl (lv_at hl 4 rfl) ?_
                refine lv_iload hx hb dX7_forgive_83 (lv_at hl 3 rfl) ?_
                refine lv_iload hx hb dX7_forgive_85 (lv_at hl 0 rfl) ?_
                refine lv_ixor hx hb dX7_forgive_87 ?_
                have hvx : upto 1024 (TT 0 q 2 ^^^ nI i) := by rw [hwe, nx_xor]; exact ⟨_, Nat.xor_lt_two_pow (n := 10) hwn hlt, rfl⟩
                refine xw_G (b := 1) (q := q) F hW (by decide) (by omega) 2 (by decide) fl_RX7_201 rfl (ty := .int) rfl rfl rfl dX7_forgive_88 (fun H locs hW => ?_)
                have hW : XW D cs ad n ρ' (va_up TT 1 (upT X q 2 ((TT 0 q 2) ^^^ (nI i)))) τ σ A s s.heap H locs := by rw [bx_uu] at hW; exact hW
                refine lv_aload_n hx hb dX7_forgive_91 rfl (lv_at hl 5 rfl) ?_
                refine xr_O F hW 6 (by decide) rfl fl_RX7_54 dX7_forgive_92 ?_
                refine lv_aload_n hx hb dX7_forgive_95 rfl (lv_at hl 4 rfl) ?_
                refine gw_callVi (As := [.ref (ad (9 + 8 * 1 + 1 + 1 + q))]) (rest := []) F hl.1 hW (fun _ _ hw => va_Nw.warmM hw hE) XE_E (by omega) (xe_T (b := 1) (by decide)) rfl (kX4_isStuck (b := 1) (by decide) (ok_upT hX1 hq6 (fun hz => okG_2 (hX1.2.2.2.2 q hz) hvx)) (by show q < seatsN ((upT X q 2 ((TT 0 q 2) ^^^ (nI i)))); rw [seats_upT (by omega), hXs]; exact hq) hX) pd_yX4_isStuck ml_RX7_162 im_yX4_isStuck se_yX4_isStuck ini_RX4 cd_yX4_isStuck ⟨rfl, rfl⟩ ⟨Nat.le_of_ble_eq_true rfl, Nat.le_of_ble_eq_true rfl⟩ rfl rfl (Nat.le_of_ble_eq_true rfl) ⟨Nat.zero_le _, Nat.zero_le _⟩ dX7_forgive_96 (fun r ρ_9 H locs hp hW _ _ => ?_)
                subst hp
                refine lv_as (z := stuckS (xLx n τ) (upT X q 2 ((TT 0 q 2) ^^^ (nI i))) q) rfl ?_
                refine lv_as (z := stuckS (xLx n τ) (upT (TT 0) q 2 (TT 0 q 2 ^^^ nI i)) q) ((hXE _).stuck (xLx n τ) (by rw [seats_upT (by omega), hXs]; exact hq)) ?_
                refine lv_if_ne (tgt := 113) hx hb dX7_forgive_99 (by decide) (fun c_10 => ?_) (fun c_10 => ?_)
                ·
                  refine lv_iinc (v := nI (i + 1)) (lv' := [(7, .int (nI (i + 1))), (5, .int bb), (6, .int ff), (4, .int (TT 0 q 2)), (3, .ref (ad (9 + 8 * 1 + 1 + 1 + q))), (0, .ref (ad 0)), (1, .int (nI q)), (2, .int w0)]) hx hb dX7_forgive_113 hl (k := 0) rfl (nI_1 i) (by decide) rfl (fun ls hl => ?_)
                  refine lv_goto (tgt := 54) hx hb dX7_forgive_116 (by decide) ?_
                  exact ih54 (i + 1) _ _ _ _ (by omega) (by omega) (by show (if nI i &&& TT 0 q 2 = nI i then (if onesS (nI i) < (forgK (xLx n τ) (TT 0) q i).2 then (if stuckS (xLx n τ) (upT (TT 0) q 2 (TT 0 q 2 ^^^ nI i)) q = 0 then (nI i, onesS (nI i)) else forgK (xLx n τ) (TT 0) q i) else forgK (xLx n τ) (TT 0) q i) else forgK (xLx n τ) (TT 0) q i) = _; rw [if_pos c_7, hBF, if_pos (Int32.not_le.mp c_8), if_neg c_10]) ((ok_upT hX1 hq6 (fun hz => okG_2 (hX1.2.2.2.2 q hz) hvx))) (by rw [seats_upT (by omega)]; exact hXs) (fun v => by rw [upT_upT]; exact hXE v) _ _ _ hW (lv_sub hl [0, 1, 2, 3, 4, 5, 6, 7] rfl)
                ·
                  refine lv_iload hx hb dX7_forgive_102 (lv_at hl 0 rfl) ?_
                  refine lv_istore (lv' := [(5, .int (nI i)), (7, .int (nI i)), (6, .int ff), (4, .int (TT 0 q 2)), (3, .ref (ad (9 + 8 * 1 + 1 + 1 + q))), (0, .ref (ad 0)), (1, .int (nI q)), (2, .int w0)]) hx hb dX7_forgive_104 hl (by decide) rfl (fun ls hl => ?_)
                  refine lv_iload hx hb dX7_forgive_106 (lv_at hl 1 rfl) ?_
                  refine gw_callP (As := [.int (nI i)]) (rest := []) F hl.1 (kJ6_bitCount_0f7a4) pd_yJ6_bitCount_0f7a4 ml_RX7_77 st_yJ6_bitCount_0f7a4 ini_RJ6 cd_yJ6_bitCount_0f7a4 ⟨rfl, rfl⟩ ⟨Nat.le_of_ble_eq_true rfl, Nat.le_of_ble_eq_true rfl⟩ rfl rfl (Nat.le_of_ble_eq_true rfl) ⟨Nat.zero_le _, Nat.zero_le _⟩ dX7_forgive_108 ?_
                  refine lv_as (z := onesS (nI i)) (bc_ones i hlt) ?_
                  refine lv_topi (fun v_11 ev_11 => ?_)
                  refine lv_istore (lv' := [(6, .int v_11), (5, .int (nI i)), (7, .int (nI i)), (4, .int (TT 0 q 2)), (3, .ref (ad (9 + 8 * 1 + 1 + 1 + q))), (0, .ref (ad 0)), (1, .int (nI q)), (2, .int w0)]) hx hb dX7_forgive_111 hl (by decide) rfl (fun ls hl => ?_)
                  refine lv_iinc (v := nI (i + 1)) (lv' := [(7, .int (nI (i + 1))), (6, .int v_11), (5, .int (nI i)), (4, .int (TT 0 q 2)), (3, .ref (ad (9 + 8 * 1 + 1 + 1 + q))), (0, .ref (ad 0)), (1, .int (nI q)), (2, .int w0)]) hx hb dX7_forgive_113 hl (k := 2) rfl (nI_1 i) (by decide) rfl (fun ls hl => ?_)
                  refine lv_goto (tgt := 54) hx hb dX7_forgive_116 (by decide) ?_
                  exact ih54 (i + 1) _ _ _ _ (by omega) (by omega) (by show (if nI i &&& TT 0 q 2 = nI i then (if onesS (nI i) < (forgK (xLx n τ) (TT 0) q i).2 then (if stuckS (xLx n τ) (upT (TT 0) q 2 (TT 0 q 2 ^^^ nI i)) q = 0 then (nI i, onesS (nI i)) else forgK (xLx n τ) (TT 0) q i) else forgK (xLx n τ) (TT 0) q i) else forgK (xLx n τ) (TT 0) q i) = _; rw [if_pos c_7, hBF, if_pos (Int32.not_le.mp c_8), if_pos c_10, ev_11]) ((ok_upT hX1 hq6 (fun hz => okG_2 (hX1.2.2.2.2 q hz) hvx))) (by rw [seats_upT (by omega)]; exact hXs) (fun v => by rw [upT_upT]; exact hXE v) _ _ _ hW (lv_sub hl [0, 2, 1, 3, 4, 5, 6, 7] rfl)
      exact L54 1025 0 _ _ _ _ (by omega) (by omega) (rfl) (hCo_C_3) (hCs_C_3) (fun v => hC_C_3.over (n := n) hq6 2 v) _ _ _ hW (lv_sub hl [0, 2, 1, 3, 4, 5, 6, 7] rfl)
    ·
      refine lv_bipush (v := (-7)) hx hb dX7_forgive_21 (by decide) ?_
      exact hret (-7) (ρ, (TT 1)) _ _ _ _ _ hW rfl rfl (by (try simp only [i32_le, Decidable.not_not] at c_1); (try simp only [i32_le, Decidable.not_not] at c_2); first | (simp only [forgiveP, i32_le, c_1, c_2, if_true, if_false, not_false_eq_true, not_true_eq_false]; done) | simp [forgiveP, c_1, c_2, i32_le]) dX7_forgive_23
  ·
    refine lv_bipush (v := (-5)) hx hb dX7_forgive_11 (by decide) ?_
    exact hret (-5) (ρ, (TT 1)) _ _ _ _ _ hW rfl rfl (by (try simp only [i32_le, Decidable.not_not] at c_1); first | (simp only [forgiveP, i32_le, c_1, if_true, if_false, not_false_eq_true, not_true_eq_false]; done) | simp [forgiveP, c_1, i32_le]) dX7_forgive_13
abbrev rm_yX7_run : Room := { frames := 6, cells := 0, slots := 0, locals := 139 }
set_option maxHeartbeats 800000 in
set_option maxRecDepth 100000 in
theorem kX7_run {l : Launch} {D : va_G} {cs : Nat → ClassId} {ad : Nat → Nat} {n : Nat} {ρ σ : Nat → Nat → Int32} {TT τ : Nat → Nat → Nat → Int32} {sz : Nat} {v z0 : Int32} (hO : okO n TT τ σ) : XMi l yX7_run cX7_run 7 FieldType.int rm_yX7_run [.ref (ad 0), .int v, .int z0] D cs ad n ρ TT τ σ sz (fun (r : Int32) (u : (Nat → Nat → Int32) × Tb) => r = runS (xLx n τ) (TT 0) v z0) (fun u : (Nat → Nat → Int32) × Tb => xent ad cs n u.1 (va_up TT 1 u.2) τ σ) := by
  refine gw_stI (Ff := fun u : (Nat → Nat → Int32) × Tb => xent ad cs n u.1 (va_up TT 1 u.2) τ σ) (own := RX7) (by decide +kernel) rfl (Nat.le_of_ble_eq_true rfl) ?_
  intro p e s m ar below meth c A Q F hE hsz hW hret ls hl
  obtain ⟨hx, hb, hml, hown, hts⟩ := id F
  have hl : lv_has ls 7 [(0, .ref (ad 0)), (1, .int v), (2, .int z0)] := hl
  obtain ⟨hn1, hn6, hT, hX, hc, hnum⟩ := hO
  have hs6 := hT.1
  have hsN := hT.2.1
  have ht0 : (TT 0 6 3).toNatClampNeg < n := hT.2.2.1
  have hW : XW D cs ad n ρ (va_up TT 1 (TT 1)) τ σ A s s.heap s.heap [] := by rw [va_up_eta]; exact hW
  refine lv_iload_n hx hb dX7_run_0 rfl (lv_at hl 2 rfl) ?_
  refine lv_if_lt (tgt := 13) hx hb dX7_run_1 (by decide) (fun c_1 => ?_) (fun c_1 => ?_)
  ·
    refine lv_iconst (v := 0) hx hb dX7_run_13 (by decide) ?_
    refine lv_istore_n (lv' := [(3, .int 0), (0, .ref (ad 0)), (1, .int v), (2, .int z0)]) hx hb dX7_run_14 rfl hl (by decide) rfl (fun ls hl => ?_)
    refine lv_iload_n hx hb dX7_run_15 rfl (lv_at hl 3 rfl) ?_
    refine lv_bipush (v := 10) hx hb dX7_run_16 (by decide) ?_
    refine lv_icmp_lt (tgt := 45) hx hb dX7_run_18 (by decide) (fun c_2 => ?_) (fun c_2 => ?_)
    ·
      refine lv_iconst (v := 0) hx hb dX7_run_45 (by decide) ?_
      refine lv_istore (lv' := [(4, .int 0), (3, .int 0), (0, .ref (ad 0)), (1, .int v), (2, .int z0)]) hx hb dX7_run_46 hl (by decide) rfl (fun ls hl => ?_)
      refine lv_iload_n hx hb dX7_run_48 rfl (lv_at hl 3 rfl) ?_
      refine gw_callP (As := [.int v]) (rest := []) F hl.1 (kX7_isRun) pd_yX7_isRun ml_RX7_204 st_yX7_isRun ini_RX7 cd_yX7_isRun ⟨rfl, rfl⟩ ⟨Nat.le_of_ble_eq_true rfl, Nat.le_of_ble_eq_true rfl⟩ rfl rfl (Nat.le_of_ble_eq_true rfl) ⟨Nat.zero_le _, Nat.zero_le _⟩ dX7_run_49 ?_
      refine lv_as (z := runP v) rfl ?_
      refine lv_if_eq (tgt := 64) hx hb dX7_run_52 (by decide) (fun c_3 => ?_) (fun c_3 => ?_)
      ·
        refine lv_bipush (v := (-2)) hx hb dX7_run_64 (by decide) ?_
        exact hret (-2) (ρ, (TT 1)) _ _ _ _ _ hW rfl rfl (by (try simp only [i32_le, Decidable.not_not] at c_1); (try simp only [i32_le, Decidable.not_not] at c_2); (try simp only [i32_le, Decidable.not_not] at c_3); simp only [runS, allW, oneW, runA, i32_le, c_1, c_2, c_3, if_true, if_false, not_false_eq_true, not_true_eq_false]; first | done | rfl | exact hxx | exact hXE.stuckB _ | exact hXE.ate | (exact hXE.2.2.2 q (by rw [hXE.seats, (ok_passN hT _).2]; exact hq) _ (by decide)) | decide) dX7_run_66
      ·
        obtain ⟨w, hw40, rfl⟩ := run_nat c_3; have hiw : iN (nI w) = w := iN_nI (by omega)
        refine lv_iload_n hx hb dX7_run_55 rfl (lv_at hl 1 rfl) ?_
        refine lv_if_ne (tgt := 67) hx hb dX7_run_56 (by decide) (fun c_4 => ?_) (fun c_4 => ?_)
        ·
          exact absurd c_4 (by decide)
        ·
          refine lv_iload hx hb dX7_run_59 (lv_at hl 0 rfl) ?_
          refine lv_if_ne (tgt := 67) hx hb dX7_run_61 (by decide) (fun c_5 => ?_) (fun c_5 => ?_)
          ·
            exact absurd c_5 (by decide)
          ·
            refine lv_bipush (v := (-2)) hx hb dX7_run_64 (by decide) ?_
            exact hret (-2) (ρ, (TT 1)) _ _ _ _ _ hW rfl rfl (by (try simp only [i32_le, Decidable.not_not] at c_1); (try simp only [i32_le, Decidable.not_not] at c_2); (try simp only [i32_le, Decidable.not_not] at c_3); simp only [runS, allW, oneW, runA, i32_le, c_1, c_2, c_3, if_true, if_false, not_false_eq_true, not_true_eq_false, hiw]; first | done | rfl | exact hxx | exact hXE.stuckB _ | exact hXE.ate | (exact hXE.2.2.2 q (by rw [hXE.seats, (ok_passN hT _).2]; exact hq) _ (by decide)) | decide) dX7_run_66
    ·
      refine lv_iload_n hx hb dX7_run_21 rfl (lv_at hl 3 rfl) ?_
      refine lv_bipush (v := 40) hx hb dX7_run_22 (by decide) ?_
      refine lv_icmp_ge (tgt := 45) hx hb dX7_run_24 (by decide) (fun c_6 => ?_) (fun c_6 => ?_)
      ·
        refine lv_iconst (v := 0) hx hb dX7_run_45 (by decide) ?_
        refine lv_istore (lv' := [(4, .int 0), (3, .int 0), (0, .ref (ad 0)), (1, .int v), (2, .int z0)]) hx hb dX7_run_46 hl (by decide) rfl (fun ls hl => ?_)
        refine lv_iload_n hx hb dX7_run_48 rfl (lv_at hl 3 rfl) ?_
        refine gw_callP (As := [.int v]) (rest := []) F hl.1 (kX7_isRun) pd_yX7_isRun ml_RX7_204 st_yX7_isRun ini_RX7 cd_yX7_isRun ⟨rfl, rfl⟩ ⟨Nat.le_of_ble_eq_true rfl, Nat.le_of_ble_eq_true rfl⟩ rfl rfl (Nat.le_of_ble_eq_true rfl) ⟨Nat.zero_le _, Nat.zero_le _⟩ dX7_run_49 ?_
        refine lv_as (z := runP v) rfl ?_
        refine lv_if_eq (tgt := 64) hx hb dX7_run_52 (by decide) (fun c_7 => ?_) (fun c_7 => ?_)
        ·
          refine lv_bipush (v := (-2)) hx hb dX7_run_64 (by decide) ?_
          exact hret (-2) (ρ, (TT 1)) _ _ _ _ _ hW rfl rfl (by (try simp only [i32_le, Decidable.not_not] at c_1); (try simp only [i32_le, Decidable.not_not] at c_2); (try simp only [i32_le, Decidable.not_not] at c_6); (try simp only [i32_le, Decidable.not_not] at c_7); simp only [runS, allW, oneW, runA, i32_le, c_1, c_2, c_6, c_7, if_true, if_false, not_false_eq_true, not_true_eq_false]; first | done | rfl | exact hxx | exact hXE.stuckB _ | exact hXE.ate | (exact hXE.2.2.2 q (by rw [hXE.seats, (ok_passN hT _).2]; exact hq) _ (by decide)) | decide) dX7_run_66
        ·
          obtain ⟨w, hw40, rfl⟩ := run_nat c_7; have hiw : iN (nI w) = w := iN_nI (by omega)
          refine lv_iload_n hx hb dX7_run_55 rfl (lv_at hl 1 rfl) ?_
          refine lv_if_ne (tgt := 67) hx hb dX7_run_56 (by decide) (fun c_8 => ?_) (fun c_8 => ?_)
          ·
            exact absurd c_8 (by decide)
          ·
            refine lv_iload hx hb dX7_run_59 (lv_at hl 0 rfl) ?_
            refine lv_if_ne (tgt := 67) hx hb dX7_run_61 (by decide) (fun c_9 => ?_) (fun c_9 => ?_)
            ·
              exact absurd c_9 (by decide)
            ·
              refine lv_bipush (v := (-2)) hx hb dX7_run_64 (by decide) ?_
              exact hret (-2) (ρ, (TT 1)) _ _ _ _ _ hW rfl rfl (by (try simp only [i32_le, Decidable.not_not] at c_1); (try simp only [i32_le, Decidable.not_not] at c_2); (try simp only [i32_le, Decidable.not_not] at c_6); (try simp only [i32_le, Decidable.not_not] at c_7); simp only [runS, allW, oneW, runA, i32_le, c_1, c_2, c_6, c_7, if_true, if_false, not_false_eq_true, not_true_eq_false, hiw]; first | done | rfl | exact hxx | exact hXE.stuckB _ | exact hXE.ate | (exact hXE.2.2.2 q (by rw [hXE.seats, (ok_passN hT _).2]; exact hq) _ (by decide)) | decide) dX7_run_66
      ·
        refine lv_aload_n hx hb dX7_run_27 rfl (lv_at hl 1 rfl) ?_
        refine xr_O F hW 5 (by decide) rfl fl_RX7_50 dX7_run_28 ?_
        refine lv_iload_n hx hb dX7_run_31 rfl (lv_at hl 3 rfl) ?_
        refine lv_bipush (v := 10) hx hb dX7_run_32 (by decide) ?_
        refine lv_irem hx hb dX7_run_34 (by decide) ?_
        refine gw_callVi (As := [.int (z0 - z0 / 10 * 10)]) (rest := []) F hl.1 hW (fun _ _ hw => va_Nw.warmM hw hE) XE_E (by omega) (xe_T (b := 0) (by decide)) rfl (kX4_seatsOne (b := 0) (by decide)) pd_yX4_seatsOne ml_RX7_125 im_yX4_seatsOne se_yX4_seatsOne ini_RX4 cd_yX4_seatsOne ⟨rfl, rfl⟩ ⟨Nat.le_of_ble_eq_true rfl, Nat.le_of_ble_eq_true rfl⟩ rfl rfl (Nat.le_of_ble_eq_true rfl) ⟨Nat.zero_le _, Nat.zero_le _⟩ dX7_run_35 (fun r u H locs hp hW _ _ => ?_)
        subst hp
        refine lv_as (z := oneP (TT 0) (z0 - z0 / 10 * 10)) rfl ?_
        refine lv_as (z := oneP (TT 0) (remS z0 10)) rfl ?_
        refine lv_if_eq (tgt := 45) hx hb dX7_run_38 (by decide) (fun c_10 => ?_) (fun c_10 => ?_)
        ·
          refine lv_iconst (v := 0) hx hb dX7_run_45 (by decide) ?_
          refine lv_istore (lv' := [(4, .int 0), (3, .int 0), (0, .ref (ad 0)), (1, .int v), (2, .int z0)]) hx hb dX7_run_46 hl (by decide) rfl (fun ls hl => ?_)
          refine lv_iload_n hx hb dX7_run_48 rfl (lv_at hl 3 rfl) ?_
          refine gw_callP (As := [.int v]) (rest := []) F hl.1 (kX7_isRun) pd_yX7_isRun ml_RX7_204 st_yX7_isRun ini_RX7 cd_yX7_isRun ⟨rfl, rfl⟩ ⟨Nat.le_of_ble_eq_true rfl, Nat.le_of_ble_eq_true rfl⟩ rfl rfl (Nat.le_of_ble_eq_true rfl) ⟨Nat.zero_le _, Nat.zero_le _⟩ dX7_run_49 ?_
          refine lv_as (z := runP v) rfl ?_
          refine lv_if_eq (tgt := 64) hx hb dX7_run_52 (by decide) (fun c_11 => ?_) (fun c_11 => ?_)
          ·
            refine lv_bipush (v := (-2)) hx hb dX7_run_64 (by decide) ?_
            exact hret (-2) (ρ, (TT 1)) _ _ _ _ _ hW rfl rfl (by (try simp only [i32_le, Decidable.not_not] at c_1); (try simp only [i32_le, Decidable.not_not] at c_2); (try simp only [i32_le, Decidable.not_not] at c_6); (try simp only [i32_le, Decidable.not_not] at c_10); (try simp only [i32_le, Decidable.not_not] at c_11); simp only [runS, allW, oneW, runA, i32_le, c_1, c_2, c_6, c_10, c_11, if_true, if_false, not_false_eq_true, not_true_eq_false]; first | done | rfl | exact hxx | exact hXE.stuckB _ | exact hXE.ate | (exact hXE.2.2.2 q (by rw [hXE.seats, (ok_passN hT _).2]; exact hq) _ (by decide)) | decide) dX7_run_66
          ·
            obtain ⟨w, hw40, rfl⟩ := run_nat c_11; have hiw : iN (nI w) = w := iN_nI (by omega)
            refine lv_iload_n hx hb dX7_run_55 rfl (lv_at hl 1 rfl) ?_
            refine lv_if_ne (tgt := 67) hx hb dX7_run_56 (by decide) (fun c_12 => ?_) (fun c_12 => ?_)
            ·
              exact absurd c_12 (by decide)
            ·
              refine lv_iload hx hb dX7_run_59 (lv_at hl 0 rfl) ?_
              refine lv_if_ne (tgt := 67) hx hb dX7_run_61 (by decide) (fun c_13 => ?_) (fun c_13 => ?_)
              ·
                exact absurd c_13 (by decide)
              ·
                refine lv_bipush (v := (-2)) hx hb dX7_run_64 (by decide) ?_
                exact hret (-2) (ρ, (TT 1)) _ _ _ _ _ hW rfl rfl (by (try simp only [i32_le, Decidable.not_not] at c_1); (try simp only [i32_le, Decidable.not_not] at c_2); (try simp only [i32_le, Decidable.not_not] at c_6); (try simp only [i32_le, Decidable.not_not] at c_10); (try simp only [i32_le, Decidable.not_not] at c_11); simp only [runS, allW, oneW, runA, i32_le, c_1, c_2, c_6, c_10, c_11, if_true, if_false, not_false_eq_true, not_true_eq_false, hiw]; first | done | rfl | exact hxx | exact hXE.stuckB _ | exact hXE.ate | (exact hXE.2.2.2 q (by rw [hXE.seats, (ok_passN hT _).2]; exact hq) _ (by decide)) | decide) dX7_run_66
        ·
          obtain ⟨q, hq, hqe⟩ := one_nat hT c_10; have hq6 : q < 6 := seats_le hT hq; have hiq : iN (remS z0 10) = q := (congrArg iN hqe).trans (iN_nI (by omega))
          refine lv_iconst (v := 1) hx hb dX7_run_41 (by decide) ?_
          refine lv_goto (tgt := 46) hx hb dX7_run_42 (by decide) ?_
          refine lv_istore (lv' := [(4, .int 1), (3, .int 0), (0, .ref (ad 0)), (1, .int v), (2, .int z0)]) hx hb dX7_run_46 hl (by decide) rfl (fun ls hl => ?_)
          refine lv_iload_n hx hb dX7_run_48 rfl (lv_at hl 3 rfl) ?_
          refine gw_callP (As := [.int v]) (rest := []) F hl.1 (kX7_isRun) pd_yX7_isRun ml_RX7_204 st_yX7_isRun ini_RX7 cd_yX7_isRun ⟨rfl, rfl⟩ ⟨Nat.le_of_ble_eq_true rfl, Nat.le_of_ble_eq_true rfl⟩ rfl rfl (Nat.le_of_ble_eq_true rfl) ⟨Nat.zero_le _, Nat.zero_le _⟩ dX7_run_49 ?_
          refine lv_as (z := runP v) rfl ?_
          refine lv_if_eq (tgt := 64) hx hb dX7_run_52 (by decide) (fun c_14 => ?_) (fun c_14 => ?_)
          ·
            refine lv_bipush (v := (-2)) hx hb dX7_run_64 (by decide) ?_
            exact hret (-2) (ρ, (TT 1)) _ _ _ _ _ hW rfl rfl (by (try simp only [i32_le, Decidable.not_not] at c_1); (try simp only [i32_le, Decidable.not_not] at c_2); (try simp only [i32_le, Decidable.not_not] at c_6); (try simp only [i32_le, Decidable.not_not] at c_10); (try simp only [i32_le, Decidable.not_not] at c_14); simp only [runS, allW, oneW, runA, i32_le, c_1, c_2, c_6, c_10, c_14, if_true, if_false, not_false_eq_true, not_true_eq_false, hiq]; first | done | rfl | exact hxx | exact hXE.stuckB _ | exact hXE.ate | (exact hXE.2.2.2 q (by rw [hXE.seats, (ok_passN hT _).2]; exact hq) _ (by decide)) | decide) dX7_run_66
          ·
            obtain ⟨w, hw40, rfl⟩ := run_nat c_14; have hiw : iN (nI w) = w := iN_nI (by omega)
            refine lv_iload_n hx hb dX7_run_55 rfl (lv_at hl 1 rfl) ?_
            refine lv_if_ne (tgt := 67) hx hb dX7_run_56 (by decide) (fun c_15 => ?_) (fun c_15 => ?_)
            ·
              exact absurd c_15 (by decide)
            ·
              refine lv_iload hx hb dX7_run_59 (lv_at hl 0 rfl) ?_
              refine lv_if_ne (tgt := 67) hx hb dX7_run_61 (by decide) (fun c_16 => ?_) (fun c_16 => ?_)
              ·
                refine lv_aload_n hx hb dX7_run_67 rfl (lv_at hl 2 rfl) ?_
                refine gw_callVv (As := []) (rest := []) F hl.1 hW (fun _ _ hw => va_Nw.warmM hw hE) XE_E (by omega) xe_0 rfl (kX7_think (TT := TT) (X := (TT 1)) hT) pd_yX7_think ml_RX7_207 im_yX7_think se_yX7_think ini_RX7 cd_yX7_think ⟨rfl, rfl⟩ ⟨Nat.le_of_ble_eq_true rfl, Nat.le_of_ble_eq_true rfl⟩ rfl rfl (Nat.le_of_ble_eq_true rfl) ⟨Nat.zero_le _, Nat.zero_le _⟩ dX7_run_68 (fun C_17 H locs hp hW _ _ => ?_)
                have hC_C_17 : EqT C_17 (TT 0) := hp
                have hCo_C_17 : okT n C_17 := hC_C_17.symm.ok hT
                have hCs_C_17 : seatsN C_17 = seatsN (TT 0) := hC_C_17.seats
                refine lv_iconst (v := 0) hx hb dX7_run_71 (by decide) ?_
                refine lv_istore (lv' := [(5, .int 0), (4, .int 1), (3, .int 0), (0, .ref (ad 0)), (1, .int (nI w)), (2, .int z0)]) hx hb dX7_run_72 hl (by decide) rfl (fun ls hl => ?_)
                refine lv_iconst (v := 0) hx hb dX7_run_74 (by decide) ?_
                refine lv_istore (lv' := [(6, .int 0), (5, .int 0), (4, .int 1), (3, .int 0), (0, .ref (ad 0)), (1, .int (nI w)), (2, .int z0)]) hx hb dX7_run_75 hl (by decide) rfl (fun ls hl => ?_)
                have L77 : ∀ (k : Nat) (i : Nat) (ρ' : Nat → Nat → Int32) (X : Tb) (x : Int32), (i ≤ w) → (w + 1 ≤ i + k) → (okT n X) → (EqT X (passN (xLx n τ) (TT 0) i).1) → (x = (passN (xLx n τ) (TT 0) i).2) → ∀ (H : Heap) (locs : List Loc) (ls : Array Slot), XW D cs ad n ρ' (va_up TT 1 X) τ σ A s s.heap H locs → lv_has ls 7 [(6, .int (nI i)), (5, .int x), (0, .ref (ad 0)), (1, .int (nI w)), (2, .int z0), (3, .int 0), (4, .int 1)] → W p l e rm_yX7_run s m ar below meth c H locs 0 0 Q (F0 m 77 ls []) := by
                  intro k
                  induction k with
                  | zero => intro i ρ' X x h1 h2 hX1 hXE hxx; exact absurd h2 (by omega)
                  | succ k ih77 =>
                    intro i ρ' X x h1 h2 hX1 hXE hxx H locs ls hW hl
                    refine lv_iload hx hb dX7_run_77 (lv_at hl 0 rfl) ?_
                    refine lv_iload_n hx hb dX7_run_79 rfl (lv_at hl 3 rfl) ?_
                    refine lv_icmp_ge (tgt := 101) hx hb dX7_run_80 (by decide) (fun c_18 => ?_) (fun c_18 => ?_)
                    ·
                      obtain rfl : w = i := by have := mi_le c_18 (by omega) (by omega); omega
                      refine lv_iload hx hb dX7_run_101 (lv_at hl 6 rfl) ?_
                      refine lv_if_eq (tgt := 154) hx hb dX7_run_103 (by decide) (fun c_19 => ?_) (fun c_19 => ?_)
                      ·
                        exact absurd c_19 (by decide)
                      ·
                        refine lv_aload_n hx hb dX7_run_106 rfl (lv_at hl 2 rfl) ?_
                        refine xr_O F hW 6 (by decide) rfl fl_RX7_54 dX7_run_107 ?_
                        refine xr_Tg (b := 1) F hW (by decide) fl_RX7_128 dX7_run_110 ?_
                        refine lv_iload_n hx hb dX7_run_113 rfl (lv_at hl 4 rfl) ?_
                        refine lv_bipush (v := 10) hx hb dX7_run_114 (by decide) ?_
                        refine lv_irem hx hb dX7_run_116 (by decide) ?_
                        refine xr_Rn (b := 1) (q := q) hqe (by omega) F hW (by decide) dX7_run_117 ?_
                        refine lv_astore (lv' := [(6, .ref (ad (9 + 8 * 1 + 1 + 1 + q))), (5, .int x), (0, .ref (ad 0)), (1, .int (nI w)), (2, .int z0), (3, .int 0), (4, .int 1)]) hx hb dX7_run_118 hl (by decide) rfl (fun ls hl => ?_)
                        refine lv_iload_n hx hb dX7_run_120 rfl (lv_at hl 4 rfl) ?_
                        refine lv_bipush (v := 20) hx hb dX7_run_121 (by decide) ?_
                        refine lv_icmp_ge (tgt := 134) hx hb dX7_run_123 (by decide) (fun c_20 => ?_) (fun c_20 => ?_)
                        ·
                          refine lv_iload_n hx hb dX7_run_134 rfl (lv_at hl 4 rfl) ?_
                          refine lv_bipush (v := 30) hx hb dX7_run_135 (by decide) ?_
                          refine lv_icmp_ge (tgt := 148) hx hb dX7_run_137 (by decide) (fun c_21 => ?_) (fun c_21 => ?_)
                          ·
                            refine lv_aload hx hb dX7_run_148 (lv_at hl 0 rfl) ?_
                            refine xr_G (b := 1) (q := q) F hW (by decide) (by omega) 4 (by decide) fl_RX7_213 dX7_run_150 ?_
                            refine lv_as (z := X q 4) rfl ?_
                            exact hret (X q 4) (ρ', X) _ _ _ _ _ hW rfl rfl (by (try simp only [i32_le, Decidable.not_not] at c_1); (try simp only [i32_le, Decidable.not_not] at c_2); (try simp only [i32_le, Decidable.not_not] at c_6); (try simp only [i32_le, Decidable.not_not] at c_10); (try simp only [i32_le, Decidable.not_not] at c_14); (try simp only [i32_le, Decidable.not_not] at c_20); (try simp only [i32_le, Decidable.not_not] at c_21); simp only [runS, allW, oneW, runA, i32_le, c_1, c_2, c_6, c_10, c_14, c_20, c_21, if_true, if_false, not_false_eq_true, not_true_eq_false, hiw, hiq]; first | done | rfl | exact hxx | exact hXE.stuckB _ | exact hXE.ate | (exact hXE.2.2.2 q (by rw [hXE.seats, (ok_passN hT _).2]; exact hq) _ (by decide)) | decide) dX7_run_153
                          ·
                            refine lv_aload hx hb dX7_run_140 (lv_at hl 0 rfl) ?_
                            refine xr_G (b := 1) (q := q) F hW (by decide) (by omega) 5 (by decide) fl_RX7_210 dX7_run_142 ?_
                            refine lv_as (z := X q 5) rfl ?_
                            refine lv_goto (tgt := 153) hx hb dX7_run_145 (by decide) ?_
                            exact hret (X q 5) (ρ', X) _ _ _ _ _ hW rfl rfl (by (try simp only [i32_le, Decidable.not_not] at c_1); (try simp only [i32_le, Decidable.not_not] at c_2); (try simp only [i32_le, Decidable.not_not] at c_6); (try simp only [i32_le, Decidable.not_not] at c_10); (try simp only [i32_le, Decidable.not_not] at c_14); (try simp only [i32_le, Decidable.not_not] at c_20); (try simp only [i32_le, Decidable.not_not] at c_21); simp only [runS, allW, oneW, runA, i32_le, c_1, c_2, c_6, c_10, c_14, c_20, c_21, if_true, if_false, not_false_eq_true, not_true_eq_false, hiw, hiq]; first | done | rfl | exact hxx | exact hXE.stuckB _ | exact hXE.ate | (exact hXE.2.2.2 q (by rw [hXE.seats, (ok_passN hT _).2]; exact hq) _ (by decide)) | decide) dX7_run_153
                        ·
                          refine lv_aload hx hb dX7_run_126 (lv_at hl 0 rfl) ?_
                          refine xr_G (b := 1) (q := q) F hW (by decide) (by omega) 2 (by decide) fl_RX7_201 dX7_run_128 ?_
                          refine lv_as (z := X q 2) rfl ?_
                          refine lv_goto (tgt := 153) hx hb dX7_run_131 (by decide) ?_
                          exact hret (X q 2) (ρ', X) _ _ _ _ _ hW rfl rfl (by (try simp only [i32_le, Decidable.not_not] at c_1); (try simp only [i32_le, Decidable.not_not] at c_2); (try simp only [i32_le, Decidable.not_not] at c_6); (try simp only [i32_le, Decidable.not_not] at c_10); (try simp only [i32_le, Decidable.not_not] at c_14); (try simp only [i32_le, Decidable.not_not] at c_20); simp only [runS, allW, oneW, runA, i32_le, c_1, c_2, c_6, c_10, c_14, c_20, if_true, if_false, not_false_eq_true, not_true_eq_false, hiw, hiq]; first | done | rfl | exact hxx | exact hXE.stuckB _ | exact hXE.ate | (exact hXE.2.2.2 q (by rw [hXE.seats, (ok_passN hT _).2]; exact hq) _ (by decide)) | decide) dX7_run_153
                    ·
                      have hlt : i < w := mi_nle c_18 (by omega) (by omega)
                      refine lv_iload hx hb dX7_run_83 (lv_at hl 1 rfl) ?_
                      refine lv_aload_n hx hb dX7_run_85 rfl (lv_at hl 2 rfl) ?_
                      refine xr_O F hW 6 (by decide) rfl fl_RX7_54 dX7_run_86 ?_
                      refine gw_callVi (As := []) (rest := [.int x]) F hl.1 hW (fun _ _ hw => va_Nw.warmM hw hE) XE_E (by omega) (xe_T (b := 1) (by decide)) rfl (kX4_pass (b := 1) (by decide) hX1 hX) pd_yX4_pass ml_RX7_192 im_yX4_pass se_yX4_pass ini_RX4 cd_yX4_pass ⟨rfl, rfl⟩ ⟨Nat.le_of_ble_eq_true rfl, Nat.le_of_ble_eq_true rfl⟩ rfl rfl (Nat.le_of_ble_eq_true rfl) ⟨Nat.zero_le _, Nat.zero_le _⟩ dX7_run_89 (fun r u H locs hp hW _ _ => ?_)
                      obtain ⟨ρ_22, TT_23⟩ := u
                      obtain ⟨rfl, hp⟩ := hp
                      have hp : TT_23 = va_up TT 1 (passS (xLx n τ) X).1 := hp.trans (bx_uu _ _ _ _)
                      subst hp
                      refine lv_as (z := (passS (xLx n τ) X).2) rfl ?_
                      refine lv_iadd hx hb dX7_run_92 ?_
                      refine lv_topi (fun v_24 ev_24 => ?_)
                      refine lv_istore (lv' := [(5, .int v_24), (6, .int (nI i)), (0, .ref (ad 0)), (1, .int (nI w)), (2, .int z0), (3, .int 0), (4, .int 1)]) hx hb dX7_run_93 hl (by decide) rfl (fun ls hl => ?_)
                      refine lv_iinc (v := nI (i + 1)) (lv' := [(6, .int (nI (i + 1))), (5, .int v_24), (0, .ref (ad 0)), (1, .int (nI w)), (2, .int z0), (3, .int 0), (4, .int 1)]) hx hb dX7_run_95 hl (k := 1) rfl (nI_1 i) (by decide) rfl (fun ls hl => ?_)
                      refine lv_goto (tgt := 77) hx hb dX7_run_98 (by decide) ?_
                      exact ih77 (i + 1) _ _ _ (by omega) (by omega) ((ok_pass (Lx := xLx n τ) hX1).1) ((hXE.pass hX1 (xLx n τ)).1) (by rw [ev_24, (hXE.pass hX1 (xLx n τ)).2, hxx]; rfl) _ _ _ hW (lv_sub hl [0, 1, 2, 3, 4, 5, 6] rfl)
                exact L77 (w + 1) 0 _ _ _ (Nat.zero_le _) (by omega) (hCo_C_17) (hC_C_17) (rfl) _ _ _ hW (lv_sub hl [0, 1, 4, 5, 6, 3, 2] rfl)
              ·
                exact absurd c_16 (by decide)
  ·
    refine lv_iload_n hx hb dX7_run_4 rfl (lv_at hl 2 rfl) ?_
    refine lv_iconst (v := 2) hx hb dX7_run_5 (by decide) ?_
    refine lv_icmp_gt (tgt := 13) hx hb dX7_run_6 (by decide) (fun c_25 => ?_) (fun c_25 => ?_)
    ·
      refine lv_iconst (v := 0) hx hb dX7_run_13 (by decide) ?_
      refine lv_istore_n (lv' := [(3, .int 0), (0, .ref (ad 0)), (1, .int v), (2, .int z0)]) hx hb dX7_run_14 rfl hl (by decide) rfl (fun ls hl => ?_)
      refine lv_iload_n hx hb dX7_run_15 rfl (lv_at hl 3 rfl) ?_
      refine lv_bipush (v := 10) hx hb dX7_run_16 (by decide) ?_
      refine lv_icmp_lt (tgt := 45) hx hb dX7_run_18 (by decide) (fun c_26 => ?_) (fun c_26 => ?_)
      ·
        refine lv_iconst (v := 0) hx hb dX7_run_45 (by decide) ?_
        refine lv_istore (lv' := [(4, .int 0), (3, .int 0), (0, .ref (ad 0)), (1, .int v), (2, .int z0)]) hx hb dX7_run_46 hl (by decide) rfl (fun ls hl => ?_)
        refine lv_iload_n hx hb dX7_run_48 rfl (lv_at hl 3 rfl) ?_
        refine gw_callP (As := [.int v]) (rest := []) F hl.1 (kX7_isRun) pd_yX7_isRun ml_RX7_204 st_yX7_isRun ini_RX7 cd_yX7_isRun ⟨rfl, rfl⟩ ⟨Nat.le_of_ble_eq_true rfl, Nat.le_of_ble_eq_true rfl⟩ rfl rfl (Nat.le_of_ble_eq_true rfl) ⟨Nat.zero_le _, Nat.zero_le _⟩ dX7_run_49 ?_
        refine lv_as (z := runP v) rfl ?_
        refine lv_if_eq (tgt := 64) hx hb dX7_run_52 (by decide) (fun c_27 => ?_) (fun c_27 => ?_)
        ·
          refine lv_bipush (v := (-2)) hx hb dX7_run_64 (by decide) ?_
          exact hret (-2) (ρ, (TT 1)) _ _ _ _ _ hW rfl rfl (by (try simp only [i32_le, Decidable.not_not] at c_1); (try simp only [i32_le, Decidable.not_not] at c_25); (try simp only [i32_le, Decidable.not_not] at c_26); (try simp only [i32_le, Decidable.not_not] at c_27); simp only [runS, allW, oneW, runA, i32_le, c_1, c_25, c_26, c_27, if_true, if_false, not_false_eq_true, not_true_eq_false]; first | done | rfl | exact hxx | exact hXE.stuckB _ | exact hXE.ate | (exact hXE.2.2.2 q (by rw [hXE.seats, (ok_passN hT _).2]; exact hq) _ (by decide)) | decide) dX7_run_66
        ·
          obtain ⟨w, hw40, rfl⟩ := run_nat c_27; have hiw : iN (nI w) = w := iN_nI (by omega)
          refine lv_iload_n hx hb dX7_run_55 rfl (lv_at hl 1 rfl) ?_
          refine lv_if_ne (tgt := 67) hx hb dX7_run_56 (by decide) (fun c_28 => ?_) (fun c_28 => ?_)
          ·
            exact absurd c_28 (by decide)
          ·
            refine lv_iload hx hb dX7_run_59 (lv_at hl 0 rfl) ?_
            refine lv_if_ne (tgt := 67) hx hb dX7_run_61 (by decide) (fun c_29 => ?_) (fun c_29 => ?_)
            ·
              exact absurd c_29 (by decide)
            ·
              refine lv_bipush (v := (-2)) hx hb dX7_run_64 (by decide) ?_
              exact hret (-2) (ρ, (TT 1)) _ _ _ _ _ hW rfl rfl (by (try simp only [i32_le, Decidable.not_not] at c_1); (try simp only [i32_le, Decidable.not_not] at c_25); (try simp only [i32_le, Decidable.not_not] at c_26); (try simp only [i32_le, Decidable.not_not] at c_27); simp only [runS, allW, oneW, runA, i32_le, c_1, c_25, c_26, c_27, if_true, if_false, not_false_eq_true, not_true_eq_false, hiw]; first | done | rfl | exact hxx | exact hXE.stuckB _ | exact hXE.ate | (exact hXE.2.2.2 q (by rw [hXE.seats, (ok_passN hT _).2]; exact hq) _ (by decide)) | decide) dX7_run_66
      ·
        refine lv_iload_n hx hb dX7_run_21 rfl (lv_at hl 3 rfl) ?_
        refine lv_bipush (v := 40) hx hb dX7_run_22 (by decide) ?_
        refine lv_icmp_ge (tgt := 45) hx hb dX7_run_24 (by decide) (fun c_30 => ?_) (fun c_30 => ?_)
        ·
          refine lv_iconst (v := 0) hx hb dX7_run_45 (by decide) ?_
          refine lv_istore (lv' := [(4, .int 0), (3, .int 0), (0, .ref (ad 0)), (1, .int v), (2, .int z0)]) hx hb dX7_run_46 hl (by decide) rfl (fun ls hl => ?_)
          refine lv_iload_n hx hb dX7_run_48 rfl (lv_at hl 3 rfl) ?_
          refine gw_callP (As := [.int v]) (rest := []) F hl.1 (kX7_isRun) pd_yX7_isRun ml_RX7_204 st_yX7_isRun ini_RX7 cd_yX7_isRun ⟨rfl, rfl⟩ ⟨Nat.le_of_ble_eq_true rfl, Nat.le_of_ble_eq_true rfl⟩ rfl rfl (Nat.le_of_ble_eq_true rfl) ⟨Nat.zero_le _, Nat.zero_le _⟩ dX7_run_49 ?_
          refine lv_as (z := runP v) rfl ?_
          refine lv_if_eq (tgt := 64) hx hb dX7_run_52 (by decide) (fun c_31 => ?_) (fun c_31 => ?_)
          ·
            refine lv_bipush (v := (-2)) hx hb dX7_run_64 (by decide) ?_
            exact hret (-2) (ρ, (TT 1)) _ _ _ _ _ hW rfl rfl (by (try simp only [i32_le, Decidable.not_not] at c_1); (try simp only [i32_le, Decidable.not_not] at c_25); (try simp only [i32_le, Decidable.not_not] at c_26); (try simp only [i32_le, Decidable.not_not] at c_30); (try simp only [i32_le, Decidable.not_not] at c_31); simp only [runS, allW, oneW, runA, i32_le, c_1, c_25, c_26, c_30, c_31, if_true, if_false, not_false_eq_true, not_true_eq_false]; first | done | rfl | exact hxx | exact hXE.stuckB _ | exact hXE.ate | (exact hXE.2.2.2 q (by rw [hXE.seats, (ok_passN hT _).2]; exact hq) _ (by decide)) | decide) dX7_run_66
          ·
            obtain ⟨w, hw40, rfl⟩ := run_nat c_31; have hiw : iN (nI w) = w := iN_nI (by omega)
            refine lv_iload_n hx hb dX7_run_55 rfl (lv_at hl 1 rfl) ?_
            refine lv_if_ne (tgt := 67) hx hb dX7_run_56 (by decide) (fun c_32 => ?_) (fun c_32 => ?_)
            ·
              exact absurd c_32 (by decide)
            ·
              refine lv_iload hx hb dX7_run_59 (lv_at hl 0 rfl) ?_
              refine lv_if_ne (tgt := 67) hx hb dX7_run_61 (by decide) (fun c_33 => ?_) (fun c_33 => ?_)
              ·
                exact absurd c_33 (by decide)
              ·
                refine lv_bipush (v := (-2)) hx hb dX7_run_64 (by decide) ?_
                exact hret (-2) (ρ, (TT 1)) _ _ _ _ _ hW rfl rfl (by (try simp only [i32_le, Decidable.not_not] at c_1); (try simp only [i32_le, Decidable.not_not] at c_25); (try simp only [i32_le, Decidable.not_not] at c_26); (try simp only [i32_le, Decidable.not_not] at c_30); (try simp only [i32_le, Decidable.not_not] at c_31); simp only [runS, allW, oneW, runA, i32_le, c_1, c_25, c_26, c_30, c_31, if_true, if_false, not_false_eq_true, not_true_eq_false, hiw]; first | done | rfl | exact hxx | exact hXE.stuckB _ | exact hXE.ate | (exact hXE.2.2.2 q (by rw [hXE.seats, (ok_passN hT _).2]; exact hq) _ (by decide)) | decide) dX7_run_66
        ·
          refine lv_aload_n hx hb dX7_run_27 rfl (lv_at hl 1 rfl) ?_
          refine xr_O F hW 5 (by decide) rfl fl_RX7_50 dX7_run_28 ?_
          refine lv_iload_n hx hb dX7_run_31 rfl (lv_at hl 3 rfl) ?_
          refine lv_bipush (v := 10) hx hb dX7_run_32 (by decide) ?_
          refine lv_irem hx hb dX7_run_34 (by decide) ?_
          refine gw_callVi (As := [.int (z0 - z0 / 10 * 10)]) (rest := []) F hl.1 hW (fun _ _ hw => va_Nw.warmM hw hE) XE_E (by omega) (xe_T (b := 0) (by decide)) rfl (kX4_seatsOne (b := 0) (by decide)) pd_yX4_seatsOne ml_RX7_125 im_yX4_seatsOne se_yX4_seatsOne ini_RX4 cd_yX4_seatsOne ⟨rfl, rfl⟩ ⟨Nat.le_of_ble_eq_true rfl, Nat.le_of_ble_eq_true rfl⟩ rfl rfl (Nat.le_of_ble_eq_true rfl) ⟨Nat.zero_le _, Nat.zero_le _⟩ dX7_run_35 (fun r u H locs hp hW _ _ => ?_)
          subst hp
          refine lv_as (z := oneP (TT 0) (z0 - z0 / 10 * 10)) rfl ?_
          refine lv_as (z := oneP (TT 0) (remS z0 10)) rfl ?_
          refine lv_if_eq (tgt := 45) hx hb dX7_run_38 (by decide) (fun c_34 => ?_) (fun c_34 => ?_)
          ·
            refine lv_iconst (v := 0) hx hb dX7_run_45 (by decide) ?_
            refine lv_istore (lv' := [(4, .int 0), (3, .int 0), (0, .ref (ad 0)), (1, .int v), (2, .int z0)]) hx hb dX7_run_46 hl (by decide) rfl (fun ls hl => ?_)
            refine lv_iload_n hx hb dX7_run_48 rfl (lv_at hl 3 rfl) ?_
            refine gw_callP (As := [.int v]) (rest := []) F hl.1 (kX7_isRun) pd_yX7_isRun ml_RX7_204 st_yX7_isRun ini_RX7 cd_yX7_isRun ⟨rfl, rfl⟩ ⟨Nat.le_of_ble_eq_true rfl, Nat.le_of_ble_eq_true rfl⟩ rfl rfl (Nat.le_of_ble_eq_true rfl) ⟨Nat.zero_le _, Nat.zero_le _⟩ dX7_run_49 ?_
            refine lv_as (z := runP v) rfl ?_
            refine lv_if_eq (tgt := 64) hx hb dX7_run_52 (by decide) (fun c_35 => ?_) (fun c_35 => ?_)
            ·
              refine lv_bipush (v := (-2)) hx hb dX7_run_64 (by decide) ?_
              exact hret (-2) (ρ, (TT 1)) _ _ _ _ _ hW rfl rfl (by (try simp only [i32_le, Decidable.not_not] at c_1); (try simp only [i32_le, Decidable.not_not] at c_25); (try simp only [i32_le, Decidable.not_not] at c_26); (try simp only [i32_le, Decidable.not_not] at c_30); (try simp only [i32_le, Decidable.not_not] at c_34); (try simp only [i32_le, Decidable.not_not] at c_35); simp only [runS, allW, oneW, runA, i32_le, c_1, c_25, c_26, c_30, c_34, c_35, if_true, if_false, not_false_eq_true, not_true_eq_false]; first | done | rfl | exact hxx | exact hXE.stuckB _ | exact hXE.ate | (exact hXE.2.2.2 q (by rw [hXE.seats, (ok_passN hT _).2]; exact hq) _ (by decide)) | decide) dX7_run_66
            ·
              obtain ⟨w, hw40, rfl⟩ := run_nat c_35; have hiw : iN (nI w) = w := iN_nI (by omega)
              refine lv_iload_n hx hb dX7_run_55 rfl (lv_at hl 1 rfl) ?_
              refine lv_if_ne (tgt := 67) hx hb dX7_run_56 (by decide) (fun c_36 => ?_) (fun c_36 => ?_)
              ·
                exact absurd c_36 (by decide)
              ·
                refine lv_iload hx hb dX7_run_59 (lv_at hl 0 rfl) ?_
                refine lv_if_ne (tgt := 67) hx hb dX7_run_61 (by decide) (fun c_37 => ?_) (fun c_37 => ?_)
                ·
                  exact absurd c_37 (by decide)
                ·
                  refine lv_bipush (v := (-2)) hx hb dX7_run_64 (by decide) ?_
                  exact hret (-2) (ρ, (TT 1)) _ _ _ _ _ hW rfl rfl (by (try simp only [i32_le, Decidable.not_not] at c_1); (try simp only [i32_le, Decidable.not_not] at c_25); (try simp only [i32_le, Decidable.not_not] at c_26); (try simp only [i32_le, Decidable.not_not] at c_30); (try simp only [i32_le, Decidable.not_not] at c_34); (try simp only [i32_le, Decidable.not_not] at c_35); simp only [runS, allW, oneW, runA, i32_le, c_1, c_25, c_26, c_30, c_34, c_35, if_true, if_false, not_false_eq_true, not_true_eq_false, hiw]; first | done | rfl | exact hxx | exact hXE.stuckB _ | exact hXE.ate | (exact hXE.2.2.2 q (by rw [hXE.seats, (ok_passN hT _).2]; exact hq) _ (by decide)) | decide) dX7_run_66
          ·
            obtain ⟨q, hq, hqe⟩ := one_nat hT c_34; have hq6 : q < 6 := seats_le hT hq; have hiq : iN (remS z0 10) = q := (congrArg iN hqe).trans (iN_nI (by omega))
            refine lv_iconst (v := 1) hx hb dX7_run_41 (by decide) ?_
            refine lv_goto (tgt := 46) hx hb dX7_run_42 (by decide) ?_
            refine lv_istore (lv' := [(4, .int 1), (3, .int 0), (0, .ref (ad 0)), (1, .int v), (2, .int z0)]) hx hb dX7_run_46 hl (by decide) rfl (fun ls hl => ?_)
            refine lv_iload_n hx hb dX7_run_48 rfl (lv_at hl 3 rfl) ?_
            refine gw_callP (As := [.int v]) (rest := []) F hl.1 (kX7_isRun) pd_yX7_isRun ml_RX7_204 st_yX7_isRun ini_RX7 cd_yX7_isRun ⟨rfl, rfl⟩ ⟨Nat.le_of_ble_eq_true rfl, Nat.le_of_ble_eq_true rfl⟩ rfl rfl (Nat.le_of_ble_eq_true rfl) ⟨Nat.zero_le _, Nat.zero_le _⟩ dX7_run_49 ?_
            refine lv_as (z := runP v) rfl ?_
            refine lv_if_eq (tgt := 64) hx hb dX7_run_52 (by decide) (fun c_38 => ?_) (fun c_38 => ?_)
            ·
              refine lv_bipush (v := (-2)) hx hb dX7_run_64 (by decide) ?_
              exact hret (-2) (ρ, (TT 1)) _ _ _ _ _ hW rfl rfl (by (try simp only [i32_le, Decidable.not_not] at c_1); (try simp only [i32_le, Decidable.not_not] at c_25); (try simp only [i32_le, Decidable.not_not] at c_26); (try simp only [i32_le, Decidable.not_not] at c_30); (try simp only [i32_le, Decidable.not_not] at c_34); (try simp only [i32_le, Decidable.not_not] at c_38); simp only [runS, allW, oneW, runA, i32_le, c_1, c_25, c_26, c_30, c_34, c_38, if_true, if_false, not_false_eq_true, not_true_eq_false, hiq]; first | done | rfl | exact hxx | exact hXE.stuckB _ | exact hXE.ate | (exact hXE.2.2.2 q (by rw [hXE.seats, (ok_passN hT _).2]; exact hq) _ (by decide)) | decide) dX7_run_66
            ·
              obtain ⟨w, hw40, rfl⟩ := run_nat c_38; have hiw : iN (nI w) = w := iN_nI (by omega)
              refine lv_iload_n hx hb dX7_run_55 rfl (lv_at hl 1 rfl) ?_
              refine lv_if_ne (tgt := 67) hx hb dX7_run_56 (by decide) (fun c_39 => ?_) (fun c_39 => ?_)
              ·
                exact absurd c_39 (by decide)
              ·
                refine lv_iload hx hb dX7_run_59 (lv_at hl 0 rfl) ?_
                refine lv_if_ne (tgt := 67) hx hb dX7_run_61 (by decide) (fun c_40 => ?_) (fun c_40 => ?_)
                ·
                  refine lv_aload_n hx hb dX7_run_67 rfl (lv_at hl 2 rfl) ?_
                  refine gw_callVv (As := []) (rest := []) F hl.1 hW (fun _ _ hw => va_Nw.warmM hw hE) XE_E (by omega) xe_0 rfl (kX7_think (TT := TT) (X := (TT 1)) hT) pd_yX7_think ml_RX7_207 im_yX7_think se_yX7_think ini_RX7 cd_yX7_think ⟨rfl, rfl⟩ ⟨Nat.le_of_ble_eq_true rfl, Nat.le_of_ble_eq_true rfl⟩ rfl rfl (Nat.le_of_ble_eq_true rfl) ⟨Nat.zero_le _, Nat.zero_le _⟩ dX7_run_68 (fun C_41 H locs hp hW _ _ => ?_)
                  have hC_C_41 : EqT C_41 (TT 0) := hp
                  have hCo_C_41 : okT n C_41 := hC_C_41.symm.ok hT
                  have hCs_C_41 : seatsN C_41 = seatsN (TT 0) := hC_C_41.seats
                  refine lv_iconst (v := 0) hx hb dX7_run_71 (by decide) ?_
                  refine lv_istore (lv' := [(5, .int 0), (4, .int 1), (3, .int 0), (0, .ref (ad 0)), (1, .int (nI w)), (2, .int z0)]) hx hb dX7_run_72 hl (by decide) rfl (fun ls hl => ?_)
                  refine lv_iconst (v := 0) hx hb dX7_run_74 (by decide) ?_
                  refine lv_istore (lv' := [(6, .int 0), (5, .int 0), (4, .int 1), (3, .int 0), (0, .ref (ad 0)), (1, .int (nI w)), (2, .int z0)]) hx hb dX7_run_75 hl (by decide) rfl (fun ls hl => ?_)
                  have L77 : ∀ (k : Nat) (i : Nat) (ρ' : Nat → Nat → Int32) (X : Tb) (x : Int32), (i ≤ w) → (w + 1 ≤ i + k) → (okT n X) → (EqT X (passN (xLx n τ) (TT 0) i).1) → (x = (passN (xLx n τ) (TT 0) i).2) → ∀ (H : Heap) (locs : List Loc) (ls : Array Slot), XW D cs ad n ρ' (va_up TT 1 X) τ σ A s s.heap H locs → lv_has ls 7 [(6, .int (nI i)), (5, .int x), (0, .ref (ad 0)), (1, .int (nI w)), (2, .int z0), (3, .int 0), (4, .int 1)] → W p l e rm_yX7_run s m ar below meth c H locs 0 0 Q (F0 m 77 ls []) := by
                    intro k
                    induction k with
                    | zero => intro i ρ' X x h1 h2 hX1 hXE hxx; exact absurd h2 (by omega)
                    | succ k ih77 =>
                      intro i ρ' X x h1 h2 hX1 hXE hxx H locs ls hW hl
                      refine lv_iload hx hb dX7_run_77 (lv_at hl 0 rfl) ?_
                      refine lv_iload_n hx hb dX7_run_79 rfl (lv_at hl 3 rfl) ?_
                      refine lv_icmp_ge (tgt := 101) hx hb dX7_run_80 (by decide) (fun c_42 => ?_) (fun c_42 => ?_)
                      ·
                        obtain rfl : w = i := by have := mi_le c_42 (by omega) (by omega); omega
                        refine lv_iload hx hb dX7_run_101 (lv_at hl 6 rfl) ?_
                        refine lv_if_eq (tgt := 154) hx hb dX7_run_103 (by decide) (fun c_43 => ?_) (fun c_43 => ?_)
                        ·
                          exact absurd c_43 (by decide)
                        ·
                          refine lv_aload_n hx hb dX7_run_106 rfl (lv_at hl 2 rfl) ?_
                          refine xr_O F hW 6 (by decide) rfl fl_RX7_54 dX7_run_107 ?_
                          refine xr_Tg (b := 1) F hW (by decide) fl_RX7_128 dX7_run_110 ?_
                          refine lv_iload_n hx hb dX7_run_113 rfl (lv_at hl 4 rfl) ?_
                          refine lv_bipush (v := 10) hx hb dX7_run_114 (by decide) ?_
                          refine lv_irem hx hb dX7_run_116 (by decide) ?_
                          refine xr_Rn (b := 1) (q := q) hqe (by omega) F hW (by decide) dX7_run_117 ?_
                          refine lv_astore (lv' := [(6, .ref (ad (9 + 8 * 1 + 1 + 1 + q))), (5, .int x), (0, .ref (ad 0)), (1, .int (nI w)), (2, .int z0), (3, .int 0), (4, .int 1)]) hx hb dX7_run_118 hl (by decide) rfl (fun ls hl => ?_)
                          refine lv_iload_n hx hb dX7_run_120 rfl (lv_at hl 4 rfl) ?_
                          refine lv_bipush (v := 20) hx hb dX7_run_121 (by decide) ?_
                          refine lv_icmp_ge (tgt := 134) hx hb dX7_run_123 (by decide) (fun c_44 => ?_) (fun c_44 => ?_)
                          ·
                            refine lv_iload_n hx hb dX7_run_134 rfl (lv_at hl 4 rfl) ?_
                            refine lv_bipush (v := 30) hx hb dX7_run_135 (by decide) ?_
                            refine lv_icmp_ge (tgt := 148) hx hb dX7_run_137 (by decide) (fun c_45 => ?_) (fun c_45 => ?_)
                            ·
                              refine lv_aload hx hb dX7_run_148 (lv_at hl 0 rfl) ?_
                              refine xr_G (b := 1) (q := q) F hW (by decide) (by omega) 4 (by decide) fl_RX7_213 dX7_run_150 ?_
                              refine lv_as (z := X q 4) rfl ?_
                              exact hret (X q 4) (ρ', X) _ _ _ _ _ hW rfl rfl (by (try simp only [i32_le, Decidable.not_not] at c_1); (try simp only [i32_le, Decidable.not_not] at c_25); (try simp only [i32_le, Decidable.not_not] at c_26); (try simp only [i32_le, Decidable.not_not] at c_30); (try simp only [i32_le, Decidable.not_not] at c_34); (try simp only [i32_le, Decidable.not_not] at c_38); (try simp only [i32_le, Decidable.not_not] at c_44); (try simp only [i32_le, Decidable.not_not] at c_45); simp only [runS, allW, oneW, runA, i32_le, c_1, c_25, c_26, c_30, c_34, c_38, c_44, c_45, if_true, if_false, not_false_eq_true, not_true_eq_false, hiw, hiq]; first | done | rfl | exact hxx | exact hXE.stuckB _ | exact hXE.ate | (exact hXE.2.2.2 q (by rw [hXE.seats, (ok_passN hT _).2]; exact hq) _ (by decide)) | decide) dX7_run_153
                            ·
                              refine lv_aload hx hb dX7_run_140 (lv_at hl 0 rfl) ?_
                              refine xr_G (b := 1) (q := q) F hW (by decide) (by omega) 5 (by decide) fl_RX7_210 dX7_run_142 ?_
                              refine lv_as (z := X q 5) rfl ?_
                              refine lv_goto (tgt := 153) hx hb dX7_run_145 (by decide) ?_
                              exact hret (X q 5) (ρ', X) _ _ _ _ _ hW rfl rfl (by (try simp only [i32_le, Decidable.not_not] at c_1); (try simp only [i32_le, Decidable.not_not] at c_25); (try simp only [i32_le, Decidable.not_not] at c_26); (try simp only [i32_le, Decidable.not_not] at c_30); (try simp only [i32_le, Decidable.not_not] at c_34); (try simp only [i32_le, Decidable.not_not] at c_38); (try simp only [i32_le, Decidable.not_not] at c_44); (try simp only [i32_le, Decidable.not_not] at c_45); simp only [runS, allW, oneW, runA, i32_le, c_1, c_25, c_26, c_30, c_34, c_38, c_44, c_45, if_true, if_false, not_false_eq_true, not_true_eq_false, hiw, hiq]; first | done | rfl | exact hxx | exact hXE.stuckB _ | exact hXE.ate | (exact hXE.2.2.2 q (by rw [hXE.seats, (ok_passN hT _).2]; exact hq) _ (by decide)) | decide) dX7_run_153
                          ·
                            refine lv_aload hx hb dX7_run_126 (lv_at hl 0 rfl) ?_
                            refine xr_G (b := 1) (q := q) F hW (by decide) (by omega) 2 (by decide) fl_RX7_201 dX7_run_128 ?_
                            refine lv_as (z := X q 2) rfl ?_
                            refine lv_goto (tgt := 153) hx hb dX7_run_131 (by decide) ?_
                            exact hret (X q 2) (ρ', X) _ _ _ _ _ hW rfl rfl (by (try simp only [i32_le, Decidable.not_not] at c_1); (try simp only [i32_le, Decidable.not_not] at c_25); (try simp only [i32_le, Decidable.not_not] at c_26); (try simp only [i32_le, Decidable.not_not] at c_30); (try simp only [i32_le, Decidable.not_not] at c_34); (try simp only [i32_le, Decidable.not_not] at c_38); (try simp only [i32_le, Decidable.not_not] at c_44); simp only [runS, allW, oneW, runA, i32_le, c_1, c_25, c_26, c_30, c_34, c_38, c_44, if_true, if_false, not_false_eq_true, not_true_eq_false, hiw, hiq]; first | done | rfl | exact hxx | exact hXE.stuckB _ | exact hXE.ate | (exact hXE.2.2.2 q (by rw [hXE.seats, (ok_passN hT _).2]; exact hq) _ (by decide)) | decide) dX7_run_153
                      ·
                        have hlt : i < w := mi_nle c_42 (by omega) (by omega)
                        refine lv_iload hx hb dX7_run_83 (lv_at hl 1 rfl) ?_
                        refine lv_aload_n hx hb dX7_run_85 rfl (lv_at hl 2 rfl) ?_
                        refine xr_O F hW 6 (by decide) rfl fl_RX7_54 dX7_run_86 ?_
                        refine gw_callVi (As := []) (rest := [.int x]) F hl.1 hW (fun _ _ hw => va_Nw.warmM hw hE) XE_E (by omega) (xe_T (b := 1) (by decide)) rfl (kX4_pass (b := 1) (by decide) hX1 hX) pd_yX4_pass ml_RX7_192 im_yX4_pass se_yX4_pass ini_RX4 cd_yX4_pass ⟨rfl, rfl⟩ ⟨Nat.le_of_ble_eq_true rfl, Nat.le_of_ble_eq_true rfl⟩ rfl rfl (Nat.le_of_ble_eq_true rfl) ⟨Nat.zero_le _, Nat.zero_le _⟩ dX7_run_89 (fun r u H locs hp hW _ _ => ?_)
                        obtain ⟨ρ_46, TT_47⟩ := u
                        obtain ⟨rfl, hp⟩ := hp
                        have hp : TT_47 = va_up TT 1 (passS (xLx n τ) X).1 := hp.trans (bx_uu _ _ _ _)
                        subst hp
                        refine lv_as (z := (passS (xLx n τ) X).2) rfl ?_
                        refine lv_iadd hx hb dX7_run_92 ?_
                        refine lv_topi (fun v_48 ev_48 => ?_)
                        refine lv_istore (lv' := [(5, .int v_48), (6, .int (nI i)), (0, .ref (ad 0)), (1, .int (nI w)), (2, .int z0), (3, .int 0), (4, .int 1)]) hx hb dX7_run_93 hl (by decide) rfl (fun ls hl => ?_)
                        refine lv_iinc (v := nI (i + 1)) (lv' := [(6, .int (nI (i + 1))), (5, .int v_48), (0, .ref (ad 0)), (1, .int (nI w)), (2, .int z0), (3, .int 0), (4, .int 1)]) hx hb dX7_run_95 hl (k := 1) rfl (nI_1 i) (by decide) rfl (fun ls hl => ?_)
                        refine lv_goto (tgt := 77) hx hb dX7_run_98 (by decide) ?_
                        exact ih77 (i + 1) _ _ _ (by omega) (by omega) ((ok_pass (Lx := xLx n τ) hX1).1) ((hXE.pass hX1 (xLx n τ)).1) (by rw [ev_48, (hXE.pass hX1 (xLx n τ)).2, hxx]; rfl) _ _ _ hW (lv_sub hl [0, 1, 2, 3, 4, 5, 6] rfl)
                  exact L77 (w + 1) 0 _ _ _ (Nat.zero_le _) (by omega) (hCo_C_41) (hC_C_41) (rfl) _ _ _ hW (lv_sub hl [0, 1, 4, 5, 6, 3, 2] rfl)
                ·
                  exact absurd c_40 (by decide)
    ·
      refine lv_iconst (v := 1) hx hb dX7_run_9 (by decide) ?_
      refine lv_goto (tgt := 14) hx hb dX7_run_10 (by decide) ?_
      refine lv_istore_n (lv' := [(3, .int 1), (0, .ref (ad 0)), (1, .int v), (2, .int z0)]) hx hb dX7_run_14 rfl hl (by decide) rfl (fun ls hl => ?_)
      refine lv_iload_n hx hb dX7_run_15 rfl (lv_at hl 3 rfl) ?_
      refine lv_bipush (v := 10) hx hb dX7_run_16 (by decide) ?_
      refine lv_icmp_lt (tgt := 45) hx hb dX7_run_18 (by decide) (fun c_49 => ?_) (fun c_49 => ?_)
      ·
        refine lv_iconst (v := 0) hx hb dX7_run_45 (by decide) ?_
        refine lv_istore (lv' := [(4, .int 0), (3, .int 1), (0, .ref (ad 0)), (1, .int v), (2, .int z0)]) hx hb dX7_run_46 hl (by decide) rfl (fun ls hl => ?_)
        refine lv_iload_n hx hb dX7_run_48 rfl (lv_at hl 3 rfl) ?_
        refine gw_callP (As := [.int v]) (rest := []) F hl.1 (kX7_isRun) pd_yX7_isRun ml_RX7_204 st_yX7_isRun ini_RX7 cd_yX7_isRun ⟨rfl, rfl⟩ ⟨Nat.le_of_ble_eq_true rfl, Nat.le_of_ble_eq_true rfl⟩ rfl rfl (Nat.le_of_ble_eq_true rfl) ⟨Nat.zero_le _, Nat.zero_le _⟩ dX7_run_49 ?_
        refine lv_as (z := runP v) rfl ?_
        refine lv_if_eq (tgt := 64) hx hb dX7_run_52 (by decide) (fun c_50 => ?_) (fun c_50 => ?_)
        ·
          refine lv_bipush (v := (-2)) hx hb dX7_run_64 (by decide) ?_
          exact hret (-2) (ρ, (TT 1)) _ _ _ _ _ hW rfl rfl (by (try simp only [i32_le, Decidable.not_not] at c_1); (try simp only [i32_le, Decidable.not_not] at c_25); (try simp only [i32_le, Decidable.not_not] at c_49); (try simp only [i32_le, Decidable.not_not] at c_50); simp only [runS, allW, oneW, runA, i32_le, c_1, c_25, c_49, c_50, if_true, if_false, not_false_eq_true, not_true_eq_false]; first | done | rfl | exact hxx | exact hXE.stuckB _ | exact hXE.ate | (exact hXE.2.2.2 q (by rw [hXE.seats, (ok_passN hT _).2]; exact hq) _ (by decide)) | decide) dX7_run_66
        ·
          obtain ⟨w, hw40, rfl⟩ := run_nat c_50; have hiw : iN (nI w) = w := iN_nI (by omega)
          refine lv_iload_n hx hb dX7_run_55 rfl (lv_at hl 1 rfl) ?_
          refine lv_if_ne (tgt := 67) hx hb dX7_run_56 (by decide) (fun c_51 => ?_) (fun c_51 => ?_)
          ·
            refine lv_aload_n hx hb dX7_run_67 rfl (lv_at hl 2 rfl) ?_
            refine gw_callVv (As := []) (rest := []) F hl.1 hW (fun _ _ hw => va_Nw.warmM hw hE) XE_E (by omega) xe_0 rfl (kX7_think (TT := TT) (X := (TT 1)) hT) pd_yX7_think ml_RX7_207 im_yX7_think se_yX7_think ini_RX7 cd_yX7_think ⟨rfl, rfl⟩ ⟨Nat.le_of_ble_eq_true rfl, Nat.le_of_ble_eq_true rfl⟩ rfl rfl (Nat.le_of_ble_eq_true rfl) ⟨Nat.zero_le _, Nat.zero_le _⟩ dX7_run_68 (fun C_52 H locs hp hW _ _ => ?_)
            have hC_C_52 : EqT C_52 (TT 0) := hp
            have hCo_C_52 : okT n C_52 := hC_C_52.symm.ok hT
            have hCs_C_52 : seatsN C_52 = seatsN (TT 0) := hC_C_52.seats
            refine lv_iconst (v := 0) hx hb dX7_run_71 (by decide) ?_
            refine lv_istore (lv' := [(5, .int 0), (4, .int 0), (3, .int 1), (0, .ref (ad 0)), (1, .int (nI w)), (2, .int z0)]) hx hb dX7_run_72 hl (by decide) rfl (fun ls hl => ?_)
            refine lv_iconst (v := 0) hx hb dX7_run_74 (by decide) ?_
            refine lv_istore (lv' := [(6, .int 0), (5, .int 0), (4, .int 0), (3, .int 1), (0, .ref (ad 0)), (1, .int (nI w)), (2, .int z0)]) hx hb dX7_run_75 hl (by decide) rfl (fun ls hl => ?_)
            have L77 : ∀ (k : Nat) (i : Nat) (ρ' : Nat → Nat → Int32) (X : Tb) (x : Int32), (i ≤ w) → (w + 1 ≤ i + k) → (okT n X) → (EqT X (passN (xLx n τ) (TT 0) i).1) → (x = (passN (xLx n τ) (TT 0) i).2) → ∀ (H : Heap) (locs : List Loc) (ls : Array Slot), XW D cs ad n ρ' (va_up TT 1 X) τ σ A s s.heap H locs → lv_has ls 7 [(6, .int (nI i)), (5, .int x), (0, .ref (ad 0)), (1, .int (nI w)), (2, .int z0), (3, .int 1), (4, .int 0)] → W p l e rm_yX7_run s m ar below meth c H locs 0 0 Q (F0 m 77 ls []) := by
              intro k
              induction k with
              | zero => intro i ρ' X x h1 h2 hX1 hXE hxx; exact absurd h2 (by omega)
              | succ k ih77 =>
                intro i ρ' X x h1 h2 hX1 hXE hxx H locs ls hW hl
                refine lv_iload hx hb dX7_run_77 (lv_at hl 0 rfl) ?_
                refine lv_iload_n hx hb dX7_run_79 rfl (lv_at hl 3 rfl) ?_
                refine lv_icmp_ge (tgt := 101) hx hb dX7_run_80 (by decide) (fun c_53 => ?_) (fun c_53 => ?_)
                ·
                  obtain rfl : w = i := by have := mi_le c_53 (by omega) (by omega); omega
                  refine lv_iload hx hb dX7_run_101 (lv_at hl 6 rfl) ?_
                  refine lv_if_eq (tgt := 154) hx hb dX7_run_103 (by decide) (fun c_54 => ?_) (fun c_54 => ?_)
                  ·
                    refine lv_iload_n hx hb dX7_run_154 rfl (lv_at hl 4 rfl) ?_
                    refine lv_if_ne (tgt := 168) hx hb dX7_run_155 (by decide) (fun c_55 => ?_) (fun c_55 => ?_)
                    ·
                      refine lv_iload_n hx hb dX7_run_168 rfl (lv_at hl 4 rfl) ?_
                      refine lv_iconst (v := 1) hx hb dX7_run_169 (by decide) ?_
                      refine lv_icmp_ne (tgt := 178) hx hb dX7_run_170 (by decide) (fun c_56 => ?_) (fun c_56 => ?_)
                      ·
                        refine lv_aload_n hx hb dX7_run_178 rfl (lv_at hl 2 rfl) ?_
                        refine xr_O F hW 6 (by decide) rfl fl_RX7_54 dX7_run_179 ?_
                        refine gw_callVi (As := []) (rest := []) F hl.1 hW (fun _ _ hw => va_Nw.warmM hw hE) XE_E (by omega) (xe_T (b := 1) (by decide)) rfl (kX4_ateTogether (b := 1) (by decide) hX1 hX) pd_yX4_ateTogether ml_RX7_189 im_yX4_ateTogether se_yX4_ateTogether ini_RX4 cd_yX4_ateTogether ⟨rfl, rfl⟩ ⟨Nat.le_of_ble_eq_true rfl, Nat.le_of_ble_eq_true rfl⟩ rfl rfl (Nat.le_of_ble_eq_true rfl) ⟨Nat.zero_le _, Nat.zero_le _⟩ dX7_run_182 (fun r ρ_57 H locs hp hW _ _ => ?_)
                        subst hp
                        refine lv_as (z := ateS X) rfl ?_
                        exact hret (ateS X) (ρ_57, X) _ _ _ _ _ hW rfl rfl (by (try simp only [i32_le, Decidable.not_not] at c_1); (try simp only [i32_le, Decidable.not_not] at c_25); (try simp only [i32_le, Decidable.not_not] at c_49); (try simp only [i32_le, Decidable.not_not] at c_50); (try simp only [i32_le, Decidable.not_not] at c_55); (try simp only [i32_le, Decidable.not_not] at c_56); simp only [runS, allW, oneW, runA, i32_le, c_1, c_25, c_49, c_50, c_55, c_56, if_true, if_false, not_false_eq_true, not_true_eq_false, hiw]; first | done | rfl | exact hxx | exact hXE.stuckB _ | exact hXE.ate | (exact hXE.2.2.2 q (by rw [hXE.seats, (ok_passN hT _).2]; exact hq) _ (by decide)) | decide) dX7_run_185
                      ·
                        refine lv_iload hx hb dX7_run_173 (lv_at hl 1 rfl) ?_
                        refine lv_goto (tgt := 185) hx hb dX7_run_175 (by decide) ?_
                        exact hret x (ρ', X) _ _ _ _ _ hW rfl rfl (by (try simp only [i32_le, Decidable.not_not] at c_1); (try simp only [i32_le, Decidable.not_not] at c_25); (try simp only [i32_le, Decidable.not_not] at c_49); (try simp only [i32_le, Decidable.not_not] at c_50); (try simp only [i32_le, Decidable.not_not] at c_55); (try simp only [i32_le, Decidable.not_not] at c_56); simp only [runS, allW, oneW, runA, i32_le, c_1, c_25, c_49, c_50, c_55, c_56, if_true, if_false, not_false_eq_true, not_true_eq_false, hiw]; first | done | rfl | exact hxx | exact hXE.stuckB _ | exact hXE.ate | (exact hXE.2.2.2 q (by rw [hXE.seats, (ok_passN hT _).2]; exact hq) _ (by decide)) | decide) dX7_run_185
                    ·
                      refine lv_aload_n hx hb dX7_run_158 rfl (lv_at hl 2 rfl) ?_
                      refine xr_O F hW 6 (by decide) rfl fl_RX7_54 dX7_run_159 ?_
                      refine gw_callVi (As := []) (rest := []) F hl.1 hW (fun _ _ hw => va_Nw.warmM hw hE) XE_E (by omega) (xe_T (b := 1) (by decide)) rfl (kX4_stuckBits (b := 1) (by decide) hX1 hX) pd_yX4_stuckBits ml_RX7_73 im_yX4_stuckBits se_yX4_stuckBits ini_RX4 cd_yX4_stuckBits ⟨rfl, rfl⟩ ⟨Nat.le_of_ble_eq_true rfl, Nat.le_of_ble_eq_true rfl⟩ rfl rfl (Nat.le_of_ble_eq_true rfl) ⟨Nat.zero_le _, Nat.zero_le _⟩ dX7_run_162 (fun r ρ_58 H locs hp hW _ _ => ?_)
                      subst hp
                      refine lv_as (z := stuckBS (xLx n τ) X) rfl ?_
                      refine lv_goto (tgt := 185) hx hb dX7_run_165 (by decide) ?_
                      exact hret (stuckBS (xLx n τ) X) (ρ_58, X) _ _ _ _ _ hW rfl rfl (by (try simp only [i32_le, Decidable.not_not] at c_1); (try simp only [i32_le, Decidable.not_not] at c_25); (try simp only [i32_le, Decidable.not_not] at c_49); (try simp only [i32_le, Decidable.not_not] at c_50); (try simp only [i32_le, Decidable.not_not] at c_55); simp only [runS, allW, oneW, runA, i32_le, c_1, c_25, c_49, c_50, c_55, if_true, if_false, not_false_eq_true, not_true_eq_false, hiw]; first | done | rfl | exact hxx | exact hXE.stuckB _ | exact hXE.ate | (exact hXE.2.2.2 q (by rw [hXE.seats, (ok_passN hT _).2]; exact hq) _ (by decide)) | decide) dX7_run_185
                  ·
                    exact absurd c_54 (by decide)
                ·
                  have hlt : i < w := mi_nle c_53 (by omega) (by omega)
                  refine lv_iload hx hb dX7_run_83 (lv_at hl 1 rfl) ?_
                  refine lv_aload_n hx hb dX7_run_85 rfl (lv_at hl 2 rfl) ?_
                  refine xr_O F hW 6 (by decide) rfl fl_RX7_54 dX7_run_86 ?_
                  refine gw_callVi (As := []) (rest := [.int x]) F hl.1 hW (fun _ _ hw => va_Nw.warmM hw hE) XE_E (by omega) (xe_T (b := 1) (by decide)) rfl (kX4_pass (b := 1) (by decide) hX1 hX) pd_yX4_pass ml_RX7_192 im_yX4_pass se_yX4_pass ini_RX4 cd_yX4_pass ⟨rfl, rfl⟩ ⟨Nat.le_of_ble_eq_true rfl, Nat.le_of_ble_eq_true rfl⟩ rfl rfl (Nat.le_of_ble_eq_true rfl) ⟨Nat.zero_le _, Nat.zero_le _⟩ dX7_run_89 (fun r u H locs hp hW _ _ => ?_)
                  obtain ⟨ρ_59, TT_60⟩ := u
                  obtain ⟨rfl, hp⟩ := hp
                  have hp : TT_60 = va_up TT 1 (passS (xLx n τ) X).1 := hp.trans (bx_uu _ _ _ _)
                  subst hp
                  refine lv_as (z := (passS (xLx n τ) X).2) rfl ?_
                  refine lv_iadd hx hb dX7_run_92 ?_
                  refine lv_topi (fun v_61 ev_61 => ?_)
                  refine lv_istore (lv' := [(5, .int v_61), (6, .int (nI i)), (0, .ref (ad 0)), (1, .int (nI w)), (2, .int z0), (3, .int 1), (4, .int 0)]) hx hb dX7_run_93 hl (by decide) rfl (fun ls hl => ?_)
                  refine lv_iinc (v := nI (i + 1)) (lv' := [(6, .int (nI (i + 1))), (5, .int v_61), (0, .ref (ad 0)), (1, .int (nI w)), (2, .int z0), (3, .int 1), (4, .int 0)]) hx hb dX7_run_95 hl (k := 1) rfl (nI_1 i) (by decide) rfl (fun ls hl => ?_)
                  refine lv_goto (tgt := 77) hx hb dX7_run_98 (by decide) ?_
                  exact ih77 (i + 1) _ _ _ (by omega) (by omega) ((ok_pass (Lx := xLx n τ) hX1).1) ((hXE.pass hX1 (xLx n τ)).1) (by rw [ev_61, (hXE.pass hX1 (xLx n τ)).2, hxx]; rfl) _ _ _ hW (lv_sub hl [0, 1, 2, 3, 4, 5, 6] rfl)
            exact L77 (w + 1) 0 _ _ _ (Nat.zero_le _) (by omega) (hCo_C_52) (hC_C_52) (rfl) _ _ _ hW (lv_sub hl [0, 1, 4, 5, 6, 3, 2] rfl)
          ·
            exact absurd c_51 (by decide)
      ·
        refine lv_iload_n hx hb dX7_run_21 rfl (lv_at hl 3 rfl) ?_
        refine lv_bipush (v := 40) hx hb dX7_run_22 (by decide) ?_
        refine lv_icmp_ge (tgt := 45) hx hb dX7_run_24 (by decide) (fun c_62 => ?_) (fun c_62 => ?_)
        ·
          refine lv_iconst (v := 0) hx hb dX7_run_45 (by decide) ?_
          refine lv_istore (lv' := [(4, .int 0), (3, .int 1), (0, .ref (ad 0)), (1, .int v), (2, .int z0)]) hx hb dX7_run_46 hl (by decide) rfl (fun ls hl => ?_)
          refine lv_iload_n hx hb dX7_run_48 rfl (lv_at hl 3 rfl) ?_
          refine gw_callP (As := [.int v]) (rest := []) F hl.1 (kX7_isRun) pd_yX7_isRun ml_RX7_204 st_yX7_isRun ini_RX7 cd_yX7_isRun ⟨rfl, rfl⟩ ⟨Nat.le_of_ble_eq_true rfl, Nat.le_of_ble_eq_true rfl⟩ rfl rfl (Nat.le_of_ble_eq_true rfl) ⟨Nat.zero_le _, Nat.zero_le _⟩ dX7_run_49 ?_
          refine lv_as (z := runP v) rfl ?_
          refine lv_if_eq (tgt := 64) hx hb dX7_run_52 (by decide) (fun c_63 => ?_) (fun c_63 => ?_)
          ·
            refine lv_bipush (v := (-2)) hx hb dX7_run_64 (by decide) ?_
            exact hret (-2) (ρ, (TT 1)) _ _ _ _ _ hW rfl rfl (by (try simp only [i32_le, Decidable.not_not] at c_1); (try simp only [i32_le, Decidable.not_not] at c_25); (try simp only [i32_le, Decidable.not_not] at c_49); (try simp only [i32_le, Decidable.not_not] at c_62); (try simp only [i32_le, Decidable.not_not] at c_63); simp only [runS, allW, oneW, runA, i32_le, c_1, c_25, c_49, c_62, c_63, if_true, if_false, not_false_eq_true, not_true_eq_false]; first | done | rfl | exact hxx | exact hXE.stuckB _ | exact hXE.ate | (exact hXE.2.2.2 q (by rw [hXE.seats, (ok_passN hT _).2]; exact hq) _ (by decide)) | decide) dX7_run_66
          ·
            obtain ⟨w, hw40, rfl⟩ := run_nat c_63; have hiw : iN (nI w) = w := iN_nI (by omega)
            refine lv_iload_n hx hb dX7_run_55 rfl (lv_at hl 1 rfl) ?_
            refine lv_if_ne (tgt := 67) hx hb dX7_run_56 (by decide) (fun c_64 => ?_) (fun c_64 => ?_)
            ·
              refine lv_aload_n hx hb dX7_run_67 rfl (lv_at hl 2 rfl) ?_
              refine gw_callVv (As := []) (rest := []) F hl.1 hW (fun _ _ hw => va_Nw.warmM hw hE) XE_E (by omega) xe_0 rfl (kX7_think (TT := TT) (X := (TT 1)) hT) pd_yX7_think ml_RX7_207 im_yX7_think se_yX7_think ini_RX7 cd_yX7_think ⟨rfl, rfl⟩ ⟨Nat.le_of_ble_eq_true rfl, Nat.le_of_ble_eq_true rfl⟩ rfl rfl (Nat.le_of_ble_eq_true rfl) ⟨Nat.zero_le _, Nat.zero_le _⟩ dX7_run_68 (fun C_65 H locs hp hW _ _ => ?_)
              have hC_C_65 : EqT C_65 (TT 0) := hp
              have hCo_C_65 : okT n C_65 := hC_C_65.symm.ok hT
              have hCs_C_65 : seatsN C_65 = seatsN (TT 0) := hC_C_65.seats
              refine lv_iconst (v := 0) hx hb dX7_run_71 (by decide) ?_
              refine lv_istore (lv' := [(5, .int 0), (4, .int 0), (3, .int 1), (0, .ref (ad 0)), (1, .int (nI w)), (2, .int z0)]) hx hb dX7_run_72 hl (by decide) rfl (fun ls hl => ?_)
              refine lv_iconst (v := 0) hx hb dX7_run_74 (by decide) ?_
              refine lv_istore (lv' := [(6, .int 0), (5, .int 0), (4, .int 0), (3, .int 1), (0, .ref (ad 0)), (1, .int (nI w)), (2, .int z0)]) hx hb dX7_run_75 hl (by decide) rfl (fun ls hl => ?_)
              have L77 : ∀ (k : Nat) (i : Nat) (ρ' : Nat → Nat → Int32) (X : Tb) (x : Int32), (i ≤ w) → (w + 1 ≤ i + k) → (okT n X) → (EqT X (passN (xLx n τ) (TT 0) i).1) → (x = (passN (xLx n τ) (TT 0) i).2) → ∀ (H : Heap) (locs : List Loc) (ls : Array Slot), XW D cs ad n ρ' (va_up TT 1 X) τ σ A s s.heap H locs → lv_has ls 7 [(6, .int (nI i)), (5, .int x), (0, .ref (ad 0)), (1, .int (nI w)), (2, .int z0), (3, .int 1), (4, .int 0)] → W p l e rm_yX7_run s m ar below meth c H locs 0 0 Q (F0 m 77 ls []) := by
                intro k
                induction k with
                | zero => intro i ρ' X x h1 h2 hX1 hXE hxx; exact absurd h2 (by omega)
                | succ k ih77 =>
                  intro i ρ' X x h1 h2 hX1 hXE hxx H locs ls hW hl
                  refine lv_iload hx hb dX7_run_77 (lv_at hl 0 rfl) ?_
                  refine lv_iload_n hx hb dX7_run_79 rfl (lv_at hl 3 rfl) ?_
                  refine lv_icmp_ge (tgt := 101) hx hb dX7_run_80 (by decide) (fun c_66 => ?_) (fun c_66 => ?_)
                  ·
                    obtain rfl : w = i := by have := mi_le c_66 (by omega) (by omega); omega
                    refine lv_iload hx hb dX7_run_101 (lv_at hl 6 rfl) ?_
                    refine lv_if_eq (tgt := 154) hx hb dX7_run_103 (by decide) (fun c_67 => ?_) (fun c_67 => ?_)
                    ·
                      refine lv_iload_n hx hb dX7_run_154 rfl (lv_at hl 4 rfl) ?_
                      refine lv_if_ne (tgt := 168) hx hb dX7_run_155 (by decide) (fun c_68 => ?_) (fun c_68 => ?_)
                      ·
                        refine lv_iload_n hx hb dX7_run_168 rfl (lv_at hl 4 rfl) ?_
                        refine lv_iconst (v := 1) hx hb dX7_run_169 (by decide) ?_
                        refine lv_icmp_ne (tgt := 178) hx hb dX7_run_170 (by decide) (fun c_69 => ?_) (fun c_69 => ?_)
                        ·
                          refine lv_aload_n hx hb dX7_run_178 rfl (lv_at hl 2 rfl) ?_
                          refine xr_O F hW 6 (by decide) rfl fl_RX7_54 dX7_run_179 ?_
                          refine gw_callVi (As := []) (rest := []) F hl.1 hW (fun _ _ hw => va_Nw.warmM hw hE) XE_E (by omega) (xe_T (b := 1) (by decide)) rfl (kX4_ateTogether (b := 1) (by decide) hX1 hX) pd_yX4_ateTogether ml_RX7_189 im_yX4_ateTogether se_yX4_ateTogether ini_RX4 cd_yX4_ateTogether ⟨rfl, rfl⟩ ⟨Nat.le_of_ble_eq_true rfl, Nat.le_of_ble_eq_true rfl⟩ rfl rfl (Nat.le_of_ble_eq_true rfl) ⟨Nat.zero_le _, Nat.zero_le _⟩ dX7_run_182 (fun r ρ_70 H locs hp hW _ _ => ?_)
                          subst hp
                          refine lv_as (z := ateS X) rfl ?_
                          exact hret (ateS X) (ρ_70, X) _ _ _ _ _ hW rfl rfl (by (try simp only [i32_le, Decidable.not_not] at c_1); (try simp only [i32_le, Decidable.not_not] at c_25); (try simp only [i32_le, Decidable.not_not] at c_49); (try simp only [i32_le, Decidable.not_not] at c_62); (try simp only [i32_le, Decidable.not_not] at c_63); (try simp only [i32_le, Decidable.not_not] at c_68); (try simp only [i32_le, Decidable.not_not] at c_69); simp only [runS, allW, oneW, runA, i32_le, c_1, c_25, c_49, c_62, c_63, c_68, c_69, if_true, if_false, not_false_eq_true, not_true_eq_false, hiw]; first | done | rfl | exact hxx | exact hXE.stuckB _ | exact hXE.ate | (exact hXE.2.2.2 q (by rw [hXE.seats, (ok_passN hT _).2]; exact hq) _ (by decide)) | decide) dX7_run_185
                        ·
                          refine lv_iload hx hb dX7_run_173 (lv_at hl 1 rfl) ?_
                          refine lv_goto (tgt := 185) hx hb dX7_run_175 (by decide) ?_
                          exact hret x (ρ', X) _ _ _ _ _ hW rfl rfl (by (try simp only [i32_le, Decidable.not_not] at c_1); (try simp only [i32_le, Decidable.not_not] at c_25); (try simp only [i32_le, Decidable.not_not] at c_49); (try simp only [i32_le, Decidable.not_not] at c_62); (try simp only [i32_le, Decidable.not_not] at c_63); (try simp only [i32_le, Decidable.not_not] at c_68); (try simp only [i32_le, Decidable.not_not] at c_69); simp only [runS, allW, oneW, runA, i32_le, c_1, c_25, c_49, c_62, c_63, c_68, c_69, if_true, if_false, not_false_eq_true, not_true_eq_false, hiw]; first | done | rfl | exact hxx | exact hXE.stuckB _ | exact hXE.ate | (exact hXE.2.2.2 q (by rw [hXE.seats, (ok_passN hT _).2]; exact hq) _ (by decide)) | decide) dX7_run_185
                      ·
                        refine lv_aload_n hx hb dX7_run_158 rfl (lv_at hl 2 rfl) ?_
                        refine xr_O F hW 6 (by decide) rfl fl_RX7_54 dX7_run_159 ?_
                        refine gw_callVi (As := []) (rest := []) F hl.1 hW (fun _ _ hw => va_Nw.warmM hw hE) XE_E (by omega) (xe_T (b := 1) (by decide)) rfl (kX4_stuckBits (b := 1) (by decide) hX1 hX) pd_yX4_stuckBits ml_RX7_73 im_yX4_stuckBits se_yX4_stuckBits ini_RX4 cd_yX4_stuckBits ⟨rfl, rfl⟩ ⟨Nat.le_of_ble_eq_true rfl, Nat.le_of_ble_eq_true rfl⟩ rfl rfl (Nat.le_of_ble_eq_true rfl) ⟨Nat.zero_le _, Nat.zero_le _⟩ dX7_run_162 (fun r ρ_71 H locs hp hW _ _ => ?_)
                        subst hp
                        refine lv_as (z := stuckBS (xLx n τ) X) rfl ?_
                        refine lv_goto (tgt := 185) hx hb dX7_run_165 (by decide) ?_
                        exact hret (stuckBS (xLx n τ) X) (ρ_71, X) _ _ _ _ _ hW rfl rfl (by (try simp only [i32_le, Decidable.not_not] at c_1); (try simp only [i32_le, Decidable.not_not] at c_25); (try simp only [i32_le, Decidable.not_not] at c_49); (try simp only [i32_le, Decidable.not_not] at c_62); (try simp only [i32_le, Decidable.not_not] at c_63); (try simp only [i32_le, Decidable.not_not] at c_68); simp only [runS, allW, oneW, runA, i32_le, c_1, c_25, c_49, c_62, c_63, c_68, if_true, if_false, not_false_eq_true, not_true_eq_false, hiw]; first | done | rfl | exact hxx | exact hXE.stuckB _ | exact hXE.ate | (exact hXE.2.2.2 q (by rw [hXE.seats, (ok_passN hT _).2]; exact hq) _ (by decide)) | decide) dX7_run_185
                    ·
                      exact absurd c_67 (by decide)
                  ·
                    have hlt : i < w := mi_nle c_66 (by omega) (by omega)
                    refine lv_iload hx hb dX7_run_83 (lv_at hl 1 rfl) ?_
                    refine lv_aload_n hx hb dX7_run_85 rfl (lv_at hl 2 rfl) ?_
                    refine xr_O F hW 6 (by decide) rfl fl_RX7_54 dX7_run_86 ?_
                    refine gw_callVi (As := []) (rest := [.int x]) F hl.1 hW (fun _ _ hw => va_Nw.warmM hw hE) XE_E (by omega) (xe_T (b := 1) (by decide)) rfl (kX4_pass (b := 1) (by decide) hX1 hX) pd_yX4_pass ml_RX7_192 im_yX4_pass se_yX4_pass ini_RX4 cd_yX4_pass ⟨rfl, rfl⟩ ⟨Nat.le_of_ble_eq_true rfl, Nat.le_of_ble_eq_true rfl⟩ rfl rfl (Nat.le_of_ble_eq_true rfl) ⟨Nat.zero_le _, Nat.zero_le _⟩ dX7_run_89 (fun r u H locs hp hW _ _ => ?_)
                    obtain ⟨ρ_72, TT_73⟩ := u
                    obtain ⟨rfl, hp⟩ := hp
                    have hp : TT_73 = va_up TT 1 (passS (xLx n τ) X).1 := hp.trans (bx_uu _ _ _ _)
                    subst hp
                    refine lv_as (z := (passS (xLx n τ) X).2) rfl ?_
                    refine lv_iadd hx hb dX7_run_92 ?_
                    refine lv_topi (fun v_74 ev_74 => ?_)
                    refine lv_istore (lv' := [(5, .int v_74), (6, .int (nI i)), (0, .ref (ad 0)), (1, .int (nI w)), (2, .int z0), (3, .int 1), (4, .int 0)]) hx hb dX7_run_93 hl (by decide) rfl (fun ls hl => ?_)
                    refine lv_iinc (v := nI (i + 1)) (lv' := [(6, .int (nI (i + 1))), (5, .int v_74), (0, .ref (ad 0)), (1, .int (nI w)), (2, .int z0), (3, .int 1), (4, .int 0)]) hx hb dX7_run_95 hl (k := 1) rfl (nI_1 i) (by decide) rfl (fun ls hl => ?_)
                    refine lv_goto (tgt := 77) hx hb dX7_run_98 (by decide) ?_
                    exact ih77 (i + 1) _ _ _ (by omega) (by omega) ((ok_pass (Lx := xLx n τ) hX1).1) ((hXE.pass hX1 (xLx n τ)).1) (by rw [ev_74, (hXE.pass hX1 (xLx n τ)).2, hxx]; rfl) _ _ _ hW (lv_sub hl [0, 1, 2, 3, 4, 5, 6] rfl)
              exact L77 (w + 1) 0 _ _ _ (Nat.zero_le _) (by omega) (hCo_C_65) (hC_C_65) (rfl) _ _ _ hW (lv_sub hl [0, 1, 4, 5, 6, 3, 2] rfl)
            ·
              exact absurd c_64 (by decide)
        ·
          refine lv_aload_n hx hb dX7_run_27 rfl (lv_at hl 1 rfl) ?_
          refine xr_O F hW 5 (by decide) rfl fl_RX7_50 dX7_run_28 ?_
          refine lv_iload_n hx hb dX7_run_31 rfl (lv_at hl 3 rfl) ?_
          refine lv_bipush (v := 10) hx hb dX7_run_32 (by decide) ?_
          refine lv_irem hx hb dX7_run_34 (by decide) ?_
          refine gw_callVi (As := [.int (z0 - z0 / 10 * 10)]) (rest := []) F hl.1 hW (fun _ _ hw => va_Nw.warmM hw hE) XE_E (by omega) (xe_T (b := 0) (by decide)) rfl (kX4_seatsOne (b := 0) (by decide)) pd_yX4_seatsOne ml_RX7_125 im_yX4_seatsOne se_yX4_seatsOne ini_RX4 cd_yX4_seatsOne ⟨rfl, rfl⟩ ⟨Nat.le_of_ble_eq_true rfl, Nat.le_of_ble_eq_true rfl⟩ rfl rfl (Nat.le_of_ble_eq_true rfl) ⟨Nat.zero_le _, Nat.zero_le _⟩ dX7_run_35 (fun r u H locs hp hW _ _ => ?_)
          subst hp
          refine lv_as (z := oneP (TT 0) (z0 - z0 / 10 * 10)) rfl ?_
          refine lv_as (z := oneP (TT 0) (remS z0 10)) rfl ?_
          refine lv_if_eq (tgt := 45) hx hb dX7_run_38 (by decide) (fun c_75 => ?_) (fun c_75 => ?_)
          ·
            refine lv_iconst (v := 0) hx hb dX7_run_45 (by decide) ?_
            refine lv_istore (lv' := [(4, .int 0), (3, .int 1), (0, .ref (ad 0)), (1, .int v), (2, .int z0)]) hx hb dX7_run_46 hl (by decide) rfl (fun ls hl => ?_)
            refine lv_iload_n hx hb dX7_run_48 rfl (lv_at hl 3 rfl) ?_
            refine gw_callP (As := [.int v]) (rest := []) F hl.1 (kX7_isRun) pd_yX7_isRun ml_RX7_204 st_yX7_isRun ini_RX7 cd_yX7_isRun ⟨rfl, rfl⟩ ⟨Nat.le_of_ble_eq_true rfl, Nat.le_of_ble_eq_true rfl⟩ rfl rfl (Nat.le_of_ble_eq_true rfl) ⟨Nat.zero_le _, Nat.zero_le _⟩ dX7_run_49 ?_
            refine lv_as (z := runP v) rfl ?_
            refine lv_if_eq (tgt := 64) hx hb dX7_run_52 (by decide) (fun c_76 => ?_) (fun c_76 => ?_)
            ·
              refine lv_bipush (v := (-2)) hx hb dX7_run_64 (by decide) ?_
              exact hret (-2) (ρ, (TT 1)) _ _ _ _ _ hW rfl rfl (by (try simp only [i32_le, Decidable.not_not] at c_1); (try simp only [i32_le, Decidable.not_not] at c_25); (try simp only [i32_le, Decidable.not_not] at c_49); (try simp only [i32_le, Decidable.not_not] at c_62); (try simp only [i32_le, Decidable.not_not] at c_75); (try simp only [i32_le, Decidable.not_not] at c_76); simp only [runS, allW, oneW, runA, i32_le, c_1, c_25, c_49, c_62, c_75, c_76, if_true, if_false, not_false_eq_true, not_true_eq_false]; first | done | rfl | exact hxx | exact hXE.stuckB _ | exact hXE.ate | (exact hXE.2.2.2 q (by rw [hXE.seats, (ok_passN hT _).2]; exact hq) _ (by decide)) | decide) dX7_run_66
            ·
              obtain ⟨w, hw40, rfl⟩ := run_nat c_76; have hiw : iN (nI w) = w := iN_nI (by omega)
              refine lv_iload_n hx hb dX7_run_55 rfl (lv_at hl 1 rfl) ?_
              refine lv_if_ne (tgt := 67) hx hb dX7_run_56 (by decide) (fun c_77 => ?_) (fun c_77 => ?_)
              ·
                refine lv_aload_n hx hb dX7_run_67 rfl (lv_at hl 2 rfl) ?_
                refine gw_callVv (As := []) (rest := []) F hl.1 hW (fun _ _ hw => va_Nw.warmM hw hE) XE_E (by omega) xe_0 rfl (kX7_think (TT := TT) (X := (TT 1)) hT) pd_yX7_think ml_RX7_207 im_yX7_think se_yX7_think ini_RX7 cd_yX7_think ⟨rfl, rfl⟩ ⟨Nat.le_of_ble_eq_true rfl, Nat.le_of_ble_eq_true rfl⟩ rfl rfl (Nat.le_of_ble_eq_true rfl) ⟨Nat.zero_le _, Nat.zero_le _⟩ dX7_run_68 (fun C_78 H locs hp hW _ _ => ?_)
                have hC_C_78 : EqT C_78 (TT 0) := hp
                have hCo_C_78 : okT n C_78 := hC_C_78.symm.ok hT
                have hCs_C_78 : seatsN C_78 = seatsN (TT 0) := hC_C_78.seats
                refine lv_iconst (v := 0) hx hb dX7_run_71 (by decide) ?_
                refine lv_istore (lv' := [(5, .int 0), (4, .int 0), (3, .int 1), (0, .ref (ad 0)), (1, .int (nI w)), (2, .int z0)]) hx hb dX7_run_72 hl (by decide) rfl (fun ls hl => ?_)
                refine lv_iconst (v := 0) hx hb dX7_run_74 (by decide) ?_
                refine lv_istore (lv' := [(6, .int 0), (5, .int 0), (4, .int 0), (3, .int 1), (0, .ref (ad 0)), (1, .int (nI w)), (2, .int z0)]) hx hb dX7_run_75 hl (by decide) rfl (fun ls hl => ?_)
                have L77 : ∀ (k : Nat) (i : Nat) (ρ' : Nat → Nat → Int32) (X : Tb) (x : Int32), (i ≤ w) → (w + 1 ≤ i + k) → (okT n X) → (EqT X (passN (xLx n τ) (TT 0) i).1) → (x = (passN (xLx n τ) (TT 0) i).2) → ∀ (H : Heap) (locs : List Loc) (ls : Array Slot), XW D cs ad n ρ' (va_up TT 1 X) τ σ A s s.heap H locs → lv_has ls 7 [(6, .int (nI i)), (5, .int x), (0, .ref (ad 0)), (1, .int (nI w)), (2, .int z0), (3, .int 1), (4, .int 0)] → W p l e rm_yX7_run s m ar below meth c H locs 0 0 Q (F0 m 77 ls []) := by
                  intro k
                  induction k with
                  | zero => intro i ρ' X x h1 h2 hX1 hXE hxx; exact absurd h2 (by omega)
                  | succ k ih77 =>
                    intro i ρ' X x h1 h2 hX1 hXE hxx H locs ls hW hl
                    refine lv_iload hx hb dX7_run_77 (lv_at hl 0 rfl) ?_
                    refine lv_iload_n hx hb dX7_run_79 rfl (lv_at hl 3 rfl) ?_
                    refine lv_icmp_ge (tgt := 101) hx hb dX7_run_80 (by decide) (fun c_79 => ?_) (fun c_79 => ?_)
                    ·
                      obtain rfl : w = i := by have := mi_le c_79 (by omega) (by omega); omega
                      refine lv_iload hx hb dX7_run_101 (lv_at hl 6 rfl) ?_
                      refine lv_if_eq (tgt := 154) hx hb dX7_run_103 (by decide) (fun c_80 => ?_) (fun c_80 => ?_)
                      ·
                        refine lv_iload_n hx hb dX7_run_154 rfl (lv_at hl 4 rfl) ?_
                        refine lv_if_ne (tgt := 168) hx hb dX7_run_155 (by decide) (fun c_81 => ?_) (fun c_81 => ?_)
                        ·
                          refine lv_iload_n hx hb dX7_run_168 rfl (lv_at hl 4 rfl) ?_
                          refine lv_iconst (v := 1) hx hb dX7_run_169 (by decide) ?_
                          refine lv_icmp_ne (tgt := 178) hx hb dX7_run_170 (by decide) (fun c_82 => ?_) (fun c_82 => ?_)
                          ·
                            refine lv_aload_n hx hb dX7_run_178 rfl (lv_at hl 2 rfl) ?_
                            refine xr_O F hW 6 (by decide) rfl fl_RX7_54 dX7_run_179 ?_
                            refine gw_callVi (As := []) (rest := []) F hl.1 hW (fun _ _ hw => va_Nw.warmM hw hE) XE_E (by omega) (xe_T (b := 1) (by decide)) rfl (kX4_ateTogether (b := 1) (by decide) hX1 hX) pd_yX4_ateTogether ml_RX7_189 im_yX4_ateTogether se_yX4_ateTogether ini_RX4 cd_yX4_ateTogether ⟨rfl, rfl⟩ ⟨Nat.le_of_ble_eq_true rfl, Nat.le_of_ble_eq_true rfl⟩ rfl rfl (Nat.le_of_ble_eq_true rfl) ⟨Nat.zero_le _, Nat.zero_le _⟩ dX7_run_182 (fun r ρ_83 H locs hp hW _ _ => ?_)
                            subst hp
                            refine lv_as (z := ateS X) rfl ?_
                            exact hret (ateS X) (ρ_83, X) _ _ _ _ _ hW rfl rfl (by (try simp only [i32_le, Decidable.not_not] at c_1); (try simp only [i32_le, Decidable.not_not] at c_25); (try simp only [i32_le, Decidable.not_not] at c_49); (try simp only [i32_le, Decidable.not_not] at c_62); (try simp only [i32_le, Decidable.not_not] at c_75); (try simp only [i32_le, Decidable.not_not] at c_76); (try simp only [i32_le, Decidable.not_not] at c_81); (try simp only [i32_le, Decidable.not_not] at c_82); simp only [runS, allW, oneW, runA, i32_le, c_1, c_25, c_49, c_62, c_75, c_76, c_81, c_82, if_true, if_false, not_false_eq_true, not_true_eq_false, hiw]; first | done | rfl | exact hxx | exact hXE.stuckB _ | exact hXE.ate | (exact hXE.2.2.2 q (by rw [hXE.seats, (ok_passN hT _).2]; exact hq) _ (by decide)) | decide) dX7_run_185
                          ·
                            refine lv_iload hx hb dX7_run_173 (lv_at hl 1 rfl) ?_
                            refine lv_goto (tgt := 185) hx hb dX7_run_175 (by decide) ?_
                            exact hret x (ρ', X) _ _ _ _ _ hW rfl rfl (by (try simp only [i32_le, Decidable.not_not] at c_1); (try simp only [i32_le, Decidable.not_not] at c_25); (try simp only [i32_le, Decidable.not_not] at c_49); (try simp only [i32_le, Decidable.not_not] at c_62); (try simp only [i32_le, Decidable.not_not] at c_75); (try simp only [i32_le, Decidable.not_not] at c_76); (try simp only [i32_le, Decidable.not_not] at c_81); (try simp only [i32_le, Decidable.not_not] at c_82); simp only [runS, allW, oneW, runA, i32_le, c_1, c_25, c_49, c_62, c_75, c_76, c_81, c_82, if_true, if_false, not_false_eq_true, not_true_eq_false, hiw]; first | done | rfl | exact hxx | exact hXE.stuckB _ | exact hXE.ate | (exact hXE.2.2.2 q (by rw [hXE.seats, (ok_passN hT _).2]; exact hq) _ (by decide)) | decide) dX7_run_185
                        ·
                          refine lv_aload_n hx hb dX7_run_158 rfl (lv_at hl 2 rfl) ?_
                          refine xr_O F hW 6 (by decide) rfl fl_RX7_54 dX7_run_159 ?_
                          refine gw_callVi (As := []) (rest := []) F hl.1 hW (fun _ _ hw => va_Nw.warmM hw hE) XE_E (by omega) (xe_T (b := 1) (by decide)) rfl (kX4_stuckBits (b := 1) (by decide) hX1 hX) pd_yX4_stuckBits ml_RX7_73 im_yX4_stuckBits se_yX4_stuckBits ini_RX4 cd_yX4_stuckBits ⟨rfl, rfl⟩ ⟨Nat.le_of_ble_eq_true rfl, Nat.le_of_ble_eq_true rfl⟩ rfl rfl (Nat.le_of_ble_eq_true rfl) ⟨Nat.zero_le _, Nat.zero_le _⟩ dX7_run_162 (fun r ρ_84 H locs hp hW _ _ => ?_)
                          subst hp
                          refine lv_as (z := stuckBS (xLx n τ) X) rfl ?_
                          refine lv_goto (tgt := 185) hx hb dX7_run_165 (by decide) ?_
                          exact hret (stuckBS (xLx n τ) X) (ρ_84, X) _ _ _ _ _ hW rfl rfl (by (try simp only [i32_le, Decidable.not_not] at c_1); (try simp only [i32_le, Decidable.not_not] at c_25); (try simp only [i32_le, Decidable.not_not] at c_49); (try simp only [i32_le, Decidable.not_not] at c_62); (try simp only [i32_le, Decidable.not_not] at c_75); (try simp only [i32_le, Decidable.not_not] at c_76); (try simp only [i32_le, Decidable.not_not] at c_81); simp only [runS, allW, oneW, runA, i32_le, c_1, c_25, c_49, c_62, c_75, c_76, c_81, if_true, if_false, not_false_eq_true, not_true_eq_false, hiw]; first | done | rfl | exact hxx | exact hXE.stuckB _ | exact hXE.ate | (exact hXE.2.2.2 q (by rw [hXE.seats, (ok_passN hT _).2]; exact hq) _ (by decide)) | decide) dX7_run_185
                      ·
                        exact absurd c_80 (by decide)
                    ·
                      have hlt : i < w := mi_nle c_79 (by omega) (by omega)
                      refine lv_iload hx hb dX7_run_83 (lv_at hl 1 rfl) ?_
                      refine lv_aload_n hx hb dX7_run_85 rfl (lv_at hl 2 rfl) ?_
                      refine xr_O F hW 6 (by decide) rfl fl_RX7_54 dX7_run_86 ?_
                      refine gw_callVi (As := []) (rest := [.int x]) F hl.1 hW (fun _ _ hw => va_Nw.warmM hw hE) XE_E (by omega) (xe_T (b := 1) (by decide)) rfl (kX4_pass (b := 1) (by decide) hX1 hX) pd_yX4_pass ml_RX7_192 im_yX4_pass se_yX4_pass ini_RX4 cd_yX4_pass ⟨rfl, rfl⟩ ⟨Nat.le_of_ble_eq_true rfl, Nat.le_of_ble_eq_true rfl⟩ rfl rfl (Nat.le_of_ble_eq_true rfl) ⟨Nat.zero_le _, Nat.zero_le _⟩ dX7_run_89 (fun r u H locs hp hW _ _ => ?_)
                      obtain ⟨ρ_85, TT_86⟩ := u
                      obtain ⟨rfl, hp⟩ := hp
                      have hp : TT_86 = va_up TT 1 (passS (xLx n τ) X).1 := hp.trans (bx_uu _ _ _ _)
                      subst hp
                      refine lv_as (z := (passS (xLx n τ) X).2) rfl ?_
                      refine lv_iadd hx hb dX7_run_92 ?_
                      refine lv_topi (fun v_87 ev_87 => ?_)
                      refine lv_istore (lv' := [(5, .int v_87), (6, .int (nI i)), (0, .ref (ad 0)), (1, .int (nI w)), (2, .int z0), (3, .int 1), (4, .int 0)]) hx hb dX7_run_93 hl (by decide) rfl (fun ls hl => ?_)
                      refine lv_iinc (v := nI (i + 1)) (lv' := [(6, .int (nI (i + 1))), (5, .int v_87), (0, .ref (ad 0)), (1, .int (nI w)), (2, .int z0), (3, .int 1), (4, .int 0)]) hx hb dX7_run_95 hl (k := 1) rfl (nI_1 i) (by decide) rfl (fun ls hl => ?_)
                      refine lv_goto (tgt := 77) hx hb dX7_run_98 (by decide) ?_
                      exact ih77 (i + 1) _ _ _ (by omega) (by omega) ((ok_pass (Lx := xLx n τ) hX1).1) ((hXE.pass hX1 (xLx n τ)).1) (by rw [ev_87, (hXE.pass hX1 (xLx n τ)).2, hxx]; rfl) _ _ _ hW (lv_sub hl [0, 1, 2, 3, 4, 5, 6] rfl)
                exact L77 (w + 1) 0 _ _ _ (Nat.zero_le _) (by omega) (hCo_C_78) (hC_C_78) (rfl) _ _ _ hW (lv_sub hl [0, 1, 4, 5, 6, 3, 2] rfl)
              ·
                exact absurd c_77 (by decide)
          ·
            obtain ⟨q, hq, hqe⟩ := one_nat hT c_75; have hq6 : q < 6 := seats_le hT hq; have hiq : iN (remS z0 10) = q := (congrArg iN hqe).trans (iN_nI (by omega))
            refine lv_iconst (v := 1) hx hb dX7_run_41 (by decide) ?_
            refine lv_goto (tgt := 46) hx hb dX7_run_42 (by decide) ?_
            refine lv_istore (lv' := [(4, .int 1), (3, .int 1), (0, .ref (ad 0)), (1, .int v), (2, .int z0)]) hx hb dX7_run_46 hl (by decide) rfl (fun ls hl => ?_)
            refine lv_iload_n hx hb dX7_run_48 rfl (lv_at hl 3 rfl) ?_
            refine gw_callP (As := [.int v]) (rest := []) F hl.1 (kX7_isRun) pd_yX7_isRun ml_RX7_204 st_yX7_isRun ini_RX7 cd_yX7_isRun ⟨rfl, rfl⟩ ⟨Nat.le_of_ble_eq_true rfl, Nat.le_of_ble_eq_true rfl⟩ rfl rfl (Nat.le_of_ble_eq_true rfl) ⟨Nat.zero_le _, Nat.zero_le _⟩ dX7_run_49 ?_
            refine lv_as (z := runP v) rfl ?_
            refine lv_if_eq (tgt := 64) hx hb dX7_run_52 (by decide) (fun c_88 => ?_) (fun c_88 => ?_)
            ·
              refine lv_bipush (v := (-2)) hx hb dX7_run_64 (by decide) ?_
              exact hret (-2) (ρ, (TT 1)) _ _ _ _ _ hW rfl rfl (by (try simp only [i32_le, Decidable.not_not] at c_1); (try simp only [i32_le, Decidable.not_not] at c_25); (try simp only [i32_le, Decidable.not_not] at c_49); (try simp only [i32_le, Decidable.not_not] at c_62); (try simp only [i32_le, Decidable.not_not] at c_75); (try simp only [i32_le, Decidable.not_not] at c_88); simp only [runS, allW, oneW, runA, i32_le, c_1, c_25, c_49, c_62, c_75, c_88, if_true, if_false, not_false_eq_true, not_true_eq_false, hiq]; first | done | rfl | exact hxx | exact hXE.stuckB _ | exact hXE.ate | (exact hXE.2.2.2 q (by rw [hXE.seats, (ok_passN hT _).2]; exact hq) _ (by decide)) | decide) dX7_run_66
            ·
              obtain ⟨w, hw40, rfl⟩ := run_nat c_88; have hiw : iN (nI w) = w := iN_nI (by omega)
              refine lv_iload_n hx hb dX7_run_55 rfl (lv_at hl 1 rfl) ?_
              refine lv_if_ne (tgt := 67) hx hb dX7_run_56 (by decide) (fun c_89 => ?_) (fun c_89 => ?_)
              ·
                refine lv_aload_n hx hb dX7_run_67 rfl (lv_at hl 2 rfl) ?_
                refine gw_callVv (As := []) (rest := []) F hl.1 hW (fun _ _ hw => va_Nw.warmM hw hE) XE_E (by omega) xe_0 rfl (kX7_think (TT := TT) (X := (TT 1)) hT) pd_yX7_think ml_RX7_207 im_yX7_think se_yX7_think ini_RX7 cd_yX7_think ⟨rfl, rfl⟩ ⟨Nat.le_of_ble_eq_true rfl, Nat.le_of_ble_eq_true rfl⟩ rfl rfl (Nat.le_of_ble_eq_true rfl) ⟨Nat.zero_le _, Nat.zero_le _⟩ dX7_run_68 (fun C_90 H locs hp hW _ _ => ?_)
                have hC_C_90 : EqT C_90 (TT 0) := hp
                have hCo_C_90 : okT n C_90 := hC_C_90.symm.ok hT
                have hCs_C_90 : seatsN C_90 = seatsN (TT 0) := hC_C_90.seats
                refine lv_iconst (v := 0) hx hb dX7_run_71 (by decide) ?_
                refine lv_istore (lv' := [(5, .int 0), (4, .int 1), (3, .int 1), (0, .ref (ad 0)), (1, .int (nI w)), (2, .int z0)]) hx hb dX7_run_72 hl (by decide) rfl (fun ls hl => ?_)
                refine lv_iconst (v := 0) hx hb dX7_run_74 (by decide) ?_
                refine lv_istore (lv' := [(6, .int 0), (5, .int 0), (4, .int 1), (3, .int 1), (0, .ref (ad 0)), (1, .int (nI w)), (2, .int z0)]) hx hb dX7_run_75 hl (by decide) rfl (fun ls hl => ?_)
                have L77 : ∀ (k : Nat) (i : Nat) (ρ' : Nat → Nat → Int32) (X : Tb) (x : Int32), (i ≤ w) → (w + 1 ≤ i + k) → (okT n X) → (EqT X (passN (xLx n τ) (TT 0) i).1) → (x = (passN (xLx n τ) (TT 0) i).2) → ∀ (H : Heap) (locs : List Loc) (ls : Array Slot), XW D cs ad n ρ' (va_up TT 1 X) τ σ A s s.heap H locs → lv_has ls 7 [(6, .int (nI i)), (5, .int x), (0, .ref (ad 0)), (1, .int (nI w)), (2, .int z0), (3, .int 1), (4, .int 1)] → W p l e rm_yX7_run s m ar below meth c H locs 0 0 Q (F0 m 77 ls []) := by
                  intro k
                  induction k with
                  | zero => intro i ρ' X x h1 h2 hX1 hXE hxx; exact absurd h2 (by omega)
                  | succ k ih77 =>
                    intro i ρ' X x h1 h2 hX1 hXE hxx H locs ls hW hl
                    refine lv_iload hx hb dX7_run_77 (lv_at hl 0 rfl) ?_
                    refine lv_iload_n hx hb dX7_run_79 rfl (lv_at hl 3 rfl) ?_
                    refine lv_icmp_ge (tgt := 101) hx hb dX7_run_80 (by decide) (fun c_91 => ?_) (fun c_91 => ?_)
                    ·
                      obtain rfl : w = i := by have := mi_le c_91 (by omega) (by omega); omega
                      refine lv_iload hx hb dX7_run_101 (lv_at hl 6 rfl) ?_
                      refine lv_if_eq (tgt := 154) hx hb dX7_run_103 (by decide) (fun c_92 => ?_) (fun c_92 => ?_)
                      ·
                        exact absurd c_92 (by decide)
                      ·
                        refine lv_aload_n hx hb dX7_run_106 rfl (lv_at hl 2 rfl) ?_
                        refine xr_O F hW 6 (by decide) rfl fl_RX7_54 dX7_run_107 ?_
                        refine xr_Tg (b := 1) F hW (by decide) fl_RX7_128 dX7_run_110 ?_
                        refine lv_iload_n hx hb dX7_run_113 rfl (lv_at hl 4 rfl) ?_
                        refine lv_bipush (v := 10) hx hb dX7_run_114 (by decide) ?_
                        refine lv_irem hx hb dX7_run_116 (by decide) ?_
                        refine xr_Rn (b := 1) (q := q) hqe (by omega) F hW (by decide) dX7_run_117 ?_
                        refine lv_astore (lv' := [(6, .ref (ad (9 + 8 * 1 + 1 + 1 + q))), (5, .int x), (0, .ref (ad 0)), (1, .int (nI w)), (2, .int z0), (3, .int 1), (4, .int 1)]) hx hb dX7_run_118 hl (by decide) rfl (fun ls hl => ?_)
                        refine lv_iload_n hx hb dX7_run_120 rfl (lv_at hl 4 rfl) ?_
                        refine lv_bipush (v := 20) hx hb dX7_run_121 (by decide) ?_
                        refine lv_icmp_ge (tgt := 134) hx hb dX7_run_123 (by decide) (fun c_93 => ?_) (fun c_93 => ?_)
                        ·
                          refine lv_iload_n hx hb dX7_run_134 rfl (lv_at hl 4 rfl) ?_
                          refine lv_bipush (v := 30) hx hb dX7_run_135 (by decide) ?_
                          refine lv_icmp_ge (tgt := 148) hx hb dX7_run_137 (by decide) (fun c_94 => ?_) (fun c_94 => ?_)
                          ·
                            refine lv_aload hx hb dX7_run_148 (lv_at hl 0 rfl) ?_
                            refine xr_G (b := 1) (q := q) F hW (by decide) (by omega) 4 (by decide) fl_RX7_213 dX7_run_150 ?_
                            refine lv_as (z := X q 4) rfl ?_
                            exact hret (X q 4) (ρ', X) _ _ _ _ _ hW rfl rfl (by (try simp only [i32_le, Decidable.not_not] at c_1); (try simp only [i32_le, Decidable.not_not] at c_25); (try simp only [i32_le, Decidable.not_not] at c_49); (try simp only [i32_le, Decidable.not_not] at c_62); (try simp only [i32_le, Decidable.not_not] at c_75); (try simp only [i32_le, Decidable.not_not] at c_88); (try simp only [i32_le, Decidable.not_not] at c_93); (try simp only [i32_le, Decidable.not_not] at c_94); simp only [runS, allW, oneW, runA, i32_le, c_1, c_25, c_49, c_62, c_75, c_88, c_93, c_94, if_true, if_false, not_false_eq_true, not_true_eq_false, hiw, hiq]; first | done | rfl | exact hxx | exact hXE.stuckB _ | exact hXE.ate | (exact hXE.2.2.2 q (by rw [hXE.seats, (ok_passN hT _).2]; exact hq) _ (by decide)) | decide) dX7_run_153
                          ·
                            refine lv_aload hx hb dX7_run_140 (lv_at hl 0 rfl) ?_
                            refine xr_G (b := 1) (q := q) F hW (by decide) (by omega) 5 (by decide) fl_RX7_210 dX7_run_142 ?_
                            refine lv_as (z := X q 5) rfl ?_
                            refine lv_goto (tgt := 153) hx hb dX7_run_145 (by decide) ?_
                            exact hret (X q 5) (ρ', X) _ _ _ _ _ hW rfl rfl (by (try simp only [i32_le, Decidable.not_not] at c_1); (try simp only [i32_le, Decidable.not_not] at c_25); (try simp only [i32_le, Decidable.not_not] at c_49); (try simp only [i32_le, Decidable.not_not] at c_62); (try simp only [i32_le, Decidable.not_not] at c_75); (try simp only [i32_le, Decidable.not_not] at c_88); (try simp only [i32_le, Decidable.not_not] at c_93); (try simp only [i32_le, Decidable.not_not] at c_94); simp only [runS, allW, oneW, runA, i32_le, c_1, c_25, c_49, c_62, c_75, c_88, c_93, c_94, if_true, if_false, not_false_eq_true, not_true_eq_false, hiw, hiq]; first | done | rfl | exact hxx | exact hXE.stuckB _ | exact hXE.ate | (exact hXE.2.2.2 q (by rw [hXE.seats, (ok_passN hT _).2]; exact hq) _ (by decide)) | decide) dX7_run_153
                        ·
                          refine lv_aload hx hb dX7_run_126 (lv_at hl 0 rfl) ?_
                          refine xr_G (b := 1) (q := q) F hW (by decide) (by omega) 2 (by decide) fl_RX7_201 dX7_run_128 ?_
                          refine lv_as (z := X q 2) rfl ?_
                          refine lv_goto (tgt := 153) hx hb dX7_run_131 (by decide) ?_
                          exact hret (X q 2) (ρ', X) _ _ _ _ _ hW rfl rfl (by (try simp only [i32_le, Decidable.not_not] at c_1); (try simp only [i32_le, Decidable.not_not] at c_25); (try simp only [i32_le, Decidable.not_not] at c_49); (try simp only [i32_le, Decidable.not_not] at c_62); (try simp only [i32_le, Decidable.not_not] at c_75); (try simp only [i32_le, Decidable.not_not] at c_88); (try simp only [i32_le, Decidable.not_not] at c_93); simp only [runS, allW, oneW, runA, i32_le, c_1, c_25, c_49, c_62, c_75, c_88, c_93, if_true, if_false, not_false_eq_true, not_true_eq_false, hiw, hiq]; first | done | rfl | exact hxx | exact hXE.stuckB _ | exact hXE.ate | (exact hXE.2.2.2 q (by rw [hXE.seats, (ok_passN hT _).2]; exact hq) _ (by decide)) | decide) dX7_run_153
                    ·
                      have hlt : i < w := mi_nle c_91 (by omega) (by omega)
                      refine lv_iload hx hb dX7_run_83 (lv_at hl 1 rfl) ?_
                      refine lv_aload_n hx hb dX7_run_85 rfl (lv_at hl 2 rfl) ?_
                      refine xr_O F hW 6 (by decide) rfl fl_RX7_54 dX7_run_86 ?_
                      refine gw_callVi (As := []) (rest := [.int x]) F hl.1 hW (fun _ _ hw => va_Nw.warmM hw hE) XE_E (by omega) (xe_T (b := 1) (by decide)) rfl (kX4_pass (b := 1) (by decide) hX1 hX) pd_yX4_pass ml_RX7_192 im_yX4_pass se_yX4_pass ini_RX4 cd_yX4_pass ⟨rfl, rfl⟩ ⟨Nat.le_of_ble_eq_true rfl, Nat.le_of_ble_eq_true rfl⟩ rfl rfl (Nat.le_of_ble_eq_true rfl) ⟨Nat.zero_le _, Nat.zero_le _⟩ dX7_run_89 (fun r u H locs hp hW _ _ => ?_)
                      obtain ⟨ρ_95, TT_96⟩ := u
                      obtain ⟨rfl, hp⟩ := hp
                      have hp : TT_96 = va_up TT 1 (passS (xLx n τ) X).1 := hp.trans (bx_uu _ _ _ _)
                      subst hp
                      refine lv_as (z := (passS (xLx n τ) X).2) rfl ?_
                      refine lv_iadd hx hb dX7_run_92 ?_
                      refine lv_topi (fun v_97 ev_97 => ?_)
                      refine lv_istore (lv' := [(5, .int v_97), (6, .int (nI i)), (0, .ref (ad 0)), (1, .int (nI w)), (2, .int z0), (3, .int 1), (4, .int 1)]) hx hb dX7_run_93 hl (by decide) rfl (fun ls hl => ?_)
                      refine lv_iinc (v := nI (i + 1)) (lv' := [(6, .int (nI (i + 1))), (5, .int v_97), (0, .ref (ad 0)), (1, .int (nI w)), (2, .int z0), (3, .int 1), (4, .int 1)]) hx hb dX7_run_95 hl (k := 1) rfl (nI_1 i) (by decide) rfl (fun ls hl => ?_)
                      refine lv_goto (tgt := 77) hx hb dX7_run_98 (by decide) ?_
                      exact ih77 (i + 1) _ _ _ (by omega) (by omega) ((ok_pass (Lx := xLx n τ) hX1).1) ((hXE.pass hX1 (xLx n τ)).1) (by rw [ev_97, (hXE.pass hX1 (xLx n τ)).2, hxx]; rfl) _ _ _ hW (lv_sub hl [0, 1, 2, 3, 4, 5, 6] rfl)
                exact L77 (w + 1) 0 _ _ _ (Nat.zero_le _) (by omega) (hCo_C_90) (hC_C_90) (rfl) _ _ _ hW (lv_sub hl [0, 1, 4, 5, 6, 3, 2] rfl)
              ·
                exact absurd c_89 (by decide)
